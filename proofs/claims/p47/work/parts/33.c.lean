/-! ===== methods: their functions and rows ===== -/
theorem dX10_add_0 : decode cX10_add 0 = .ok (.aload_n 0, 1) := by decide +kernel
theorem dX10_add_1 : decode cX10_add 1 = .ok (.iload_n 1, 1) := by decide +kernel
theorem dX10_add_2 : decode cX10_add 2 = .ok (.invokevirtual 71, 3) := by decide +kernel
theorem dX10_add_5 : decode cX10_add 5 = .ok (.astore 4, 2) := by decide +kernel
theorem dX10_add_7 : decode cX10_add 7 = .ok (.iload_n 2, 1) := by decide +kernel
theorem dX10_add_8 : decode cX10_add 8 = .ok (.ifCond .lt 22, 3) := by decide +kernel
theorem dX10_add_11 : decode cX10_add 11 = .ok (.iload_n 2, 1) := by decide +kernel
theorem dX10_add_12 : decode cX10_add 12 = .ok (.aload 4, 2) := by decide +kernel
theorem dX10_add_14 : decode cX10_add 14 = .ok (.invokevirtual 75, 3) := by decide +kernel
theorem dX10_add_17 : decode cX10_add 17 = .ok (.if_icmp .gt 13, 3) := by decide +kernel
theorem dX10_add_20 : decode cX10_add 20 = .ok (.iload_n 3, 1) := by decide +kernel
theorem dX10_add_21 : decode cX10_add 21 = .ok (.ifCond .lt 9, 3) := by decide +kernel
theorem dX10_add_24 : decode cX10_add 24 = .ok (.iload_n 3, 1) := by decide +kernel
theorem dX10_add_25 : decode cX10_add 25 = .ok (.bipush 7, 2) := by decide +kernel
theorem dX10_add_27 : decode cX10_add 27 = .ok (.if_icmp .le 13, 3) := by decide +kernel
theorem dX10_add_30 : decode cX10_add 30 = .ok (.new 52, 3) := by decide +kernel
theorem dX10_add_33 : decode cX10_add 33 = .ok (.dup, 1) := by decide +kernel
theorem dX10_add_34 : decode cX10_add 34 = .ok (.ldc 78, 2) := by decide +kernel
theorem dX10_add_36 : decode cX10_add 36 = .ok (.invokespecial 56, 3) := by decide +kernel
theorem dX10_add_39 : decode cX10_add 39 = .ok (.athrow, 1) := by decide +kernel
theorem dX10_add_40 : decode cX10_add 40 = .ok (.aload_n 0, 1) := by decide +kernel
theorem dX10_add_41 : decode cX10_add 41 = .ok (.getfield 10, 3) := by decide +kernel
theorem dX10_add_44 : decode cX10_add 44 = .ok (.invokevirtual 80, 3) := by decide +kernel
theorem dX10_add_47 : decode cX10_add 47 = .ok (.ifCond .eq 22, 3) := by decide +kernel
theorem dX10_add_50 : decode cX10_add 50 = .ok (.aload 4, 2) := by decide +kernel
theorem dX10_add_52 : decode cX10_add 52 = .ok (.invokevirtual 75, 3) := by decide +kernel
theorem dX10_add_55 : decode cX10_add 55 = .ok (.bipush 10, 2) := by decide +kernel
theorem dX10_add_57 : decode cX10_add 57 = .ok (.if_icmp .ge 12, 3) := by decide +kernel
theorem dX10_add_60 : decode cX10_add 60 = .ok (.aload 4, 2) := by decide +kernel
theorem dX10_add_62 : decode cX10_add 62 = .ok (.iload_n 3, 1) := by decide +kernel
theorem dX10_add_63 : decode cX10_add 63 = .ok (.invokevirtual 84, 3) := by decide +kernel
theorem dX10_add_66 : decode cX10_add 66 = .ok (.ifCond .ne 13, 3) := by decide +kernel
theorem dX10_add_69 : decode cX10_add 69 = .ok (.new 63, 3) := by decide +kernel
theorem dX10_add_72 : decode cX10_add 72 = .ok (.dup, 1) := by decide +kernel
theorem dX10_add_73 : decode cX10_add 73 = .ok (.ldc 87, 2) := by decide +kernel
theorem dX10_add_75 : decode cX10_add 75 = .ok (.invokespecial 67, 3) := by decide +kernel
theorem dX10_add_78 : decode cX10_add 78 = .ok (.athrow, 1) := by decide +kernel
theorem dX10_add_79 : decode cX10_add 79 = .ok (.aload_n 0, 1) := by decide +kernel
theorem dX10_add_80 : decode cX10_add 80 = .ok (.invokevirtual 89, 3) := by decide +kernel
theorem dX10_add_83 : decode cX10_add 83 = .ok (.aload_n 0, 1) := by decide +kernel
theorem dX10_add_84 : decode cX10_add 84 = .ok (.getfield 10, 3) := by decide +kernel
theorem dX10_add_87 : decode cX10_add 87 = .ok (.aload 4, 2) := by decide +kernel
theorem dX10_add_89 : decode cX10_add 89 = .ok (.iload_n 2, 1) := by decide +kernel
theorem dX10_add_90 : decode cX10_add 90 = .ok (.iload_n 3, 1) := by decide +kernel
theorem dX10_add_91 : decode cX10_add 91 = .ok (.aload_n 0, 1) := by decide +kernel
theorem dX10_add_92 : decode cX10_add 92 = .ok (.getfield 44, 3) := by decide +kernel
theorem dX10_add_95 : decode cX10_add 95 = .ok (.invokevirtual 92, 3) := by decide +kernel
theorem dX10_add_98 : decode cX10_add 98 = .ok (.astore 5, 2) := by decide +kernel
theorem dX10_add_100 : decode cX10_add 100 = .ok (.aload_n 0, 1) := by decide +kernel
theorem dX10_add_101 : decode cX10_add 101 = .ok (.getfield 44, 3) := by decide +kernel
theorem dX10_add_104 : decode cX10_add 104 = .ok (.invokevirtual 96, 3) := by decide +kernel
theorem dX10_add_107 : decode cX10_add 107 = .ok (.aload_n 0, 1) := by decide +kernel
theorem dX10_add_108 : decode cX10_add 108 = .ok (.getfield 28, 3) := by decide +kernel
theorem dX10_add_111 : decode cX10_add 111 = .ok (.aload 5, 2) := by decide +kernel
theorem dX10_add_113 : decode cX10_add 113 = .ok (.invokevirtual 99, 3) := by decide +kernel
theorem dX10_add_116 : decode cX10_add 116 = .ok (.aload 5, 2) := by decide +kernel
theorem dX10_add_118 : decode cX10_add 118 = .ok (.getfield 103, 3) := by decide +kernel
theorem dX10_add_121 : decode cX10_add 121 = .ok (.ireturn, 1) := by decide +kernel
theorem dX10_refuseScreen_0 : decode cX10_refuseScreen 0 = .ok (.aload_n 0, 1) := by decide +kernel
theorem dX10_refuseScreen_1 : decode cX10_refuseScreen 1 = .ok (.getfield 178, 3) := by decide +kernel
theorem dX10_refuseScreen_4 : decode cX10_refuseScreen 4 = .ok (.ifnonnull 14, 3) := by decide +kernel
theorem dX10_refuseScreen_7 : decode cX10_refuseScreen 7 = .ok (.new 63, 3) := by decide +kernel
theorem dX10_refuseScreen_10 : decode cX10_refuseScreen 10 = .ok (.dup, 1) := by decide +kernel
theorem dX10_refuseScreen_11 : decode cX10_refuseScreen 11 = .ok (.ldc_w 318, 3) := by decide +kernel
theorem dX10_refuseScreen_14 : decode cX10_refuseScreen 14 = .ok (.invokespecial 67, 3) := by decide +kernel
theorem dX10_refuseScreen_17 : decode cX10_refuseScreen 17 = .ok (.athrow, 1) := by decide +kernel
theorem dX10_refuseScreen_18 : decode cX10_refuseScreen 18 = .ok (.return_, 1) := by decide +kernel
theorem dX10_remove_0 : decode cX10_remove 0 = .ok (.aload_n 0, 1) := by decide +kernel
theorem dX10_remove_1 : decode cX10_remove 1 = .ok (.iload_n 1, 1) := by decide +kernel
theorem dX10_remove_2 : decode cX10_remove 2 = .ok (.invokevirtual 71, 3) := by decide +kernel
theorem dX10_remove_5 : decode cX10_remove 5 = .ok (.astore_n 2, 1) := by decide +kernel
theorem dX10_remove_6 : decode cX10_remove 6 = .ok (.aload_n 2, 1) := by decide +kernel
theorem dX10_remove_7 : decode cX10_remove 7 = .ok (.invokestatic 107, 3) := by decide +kernel
theorem dX10_remove_10 : decode cX10_remove 10 = .ok (.aload_n 0, 1) := by decide +kernel
theorem dX10_remove_11 : decode cX10_remove 11 = .ok (.invokevirtual 89, 3) := by decide +kernel
theorem dX10_remove_14 : decode cX10_remove 14 = .ok (.aload_n 2, 1) := by decide +kernel
theorem dX10_remove_15 : decode cX10_remove 15 = .ok (.invokevirtual 110, 3) := by decide +kernel
theorem dX10_remove_18 : decode cX10_remove 18 = .ok (.istore_n 3, 1) := by decide +kernel
theorem dX10_remove_19 : decode cX10_remove 19 = .ok (.aload_n 2, 1) := by decide +kernel
theorem dX10_remove_20 : decode cX10_remove 20 = .ok (.invokevirtual 113, 3) := by decide +kernel
theorem dX10_remove_23 : decode cX10_remove 23 = .ok (.astore 4, 2) := by decide +kernel
theorem dX10_remove_25 : decode cX10_remove 25 = .ok (.aload_n 0, 1) := by decide +kernel
theorem dX10_remove_26 : decode cX10_remove 26 = .ok (.getfield 28, 3) := by decide +kernel
theorem dX10_remove_29 : decode cX10_remove 29 = .ok (.aload_n 2, 1) := by decide +kernel
theorem dX10_remove_30 : decode cX10_remove 30 = .ok (.invokevirtual 117, 3) := by decide +kernel
theorem dX10_remove_33 : decode cX10_remove 33 = .ok (.aload_n 0, 1) := by decide +kernel
theorem dX10_remove_34 : decode cX10_remove 34 = .ok (.getfield 10, 3) := by decide +kernel
theorem dX10_remove_37 : decode cX10_remove 37 = .ok (.aload_n 2, 1) := by decide +kernel
theorem dX10_remove_38 : decode cX10_remove 38 = .ok (.invokevirtual 120, 3) := by decide +kernel
theorem dX10_remove_41 : decode cX10_remove 41 = .ok (.istore 5, 2) := by decide +kernel
theorem dX10_remove_43 : decode cX10_remove 43 = .ok (.iload_n 3, 1) := by decide +kernel
theorem dX10_remove_44 : decode cX10_remove 44 = .ok (.ifCond .eq 11, 3) := by decide +kernel
theorem dX10_remove_47 : decode cX10_remove 47 = .ok (.aload_n 0, 1) := by decide +kernel
theorem dX10_remove_48 : decode cX10_remove 48 = .ok (.getfield 28, 3) := by decide +kernel
theorem dX10_remove_51 : decode cX10_remove 51 = .ok (.aload_n 2, 1) := by decide +kernel
theorem dX10_remove_52 : decode cX10_remove 52 = .ok (.invokevirtual 124, 3) := by decide +kernel
theorem dX10_remove_55 : decode cX10_remove 55 = .ok (.aload_n 0, 1) := by decide +kernel
theorem dX10_remove_56 : decode cX10_remove 56 = .ok (.getfield 35, 3) := by decide +kernel
theorem dX10_remove_59 : decode cX10_remove 59 = .ok (.aload_n 2, 1) := by decide +kernel
theorem dX10_remove_60 : decode cX10_remove 60 = .ok (.aload 4, 2) := by decide +kernel
theorem dX10_remove_62 : decode cX10_remove 62 = .ok (.invokevirtual 127, 3) := by decide +kernel
theorem dX10_remove_65 : decode cX10_remove 65 = .ok (.iload 5, 2) := by decide +kernel
theorem dX10_remove_67 : decode cX10_remove 67 = .ok (.ireturn, 1) := by decide +kernel
theorem dX10_hide_0 : decode cX10_hide 0 = .ok (.aload_n 0, 1) := by decide +kernel
theorem dX10_hide_1 : decode cX10_hide 1 = .ok (.iload_n 1, 1) := by decide +kernel
theorem dX10_hide_2 : decode cX10_hide 2 = .ok (.invokevirtual 71, 3) := by decide +kernel
theorem dX10_hide_5 : decode cX10_hide 5 = .ok (.astore_n 3, 1) := by decide +kernel
theorem dX10_hide_6 : decode cX10_hide 6 = .ok (.aload_n 3, 1) := by decide +kernel
theorem dX10_hide_7 : decode cX10_hide 7 = .ok (.invokestatic 107, 3) := by decide +kernel
theorem dX10_hide_10 : decode cX10_hide 10 = .ok (.aload_n 0, 1) := by decide +kernel
theorem dX10_hide_11 : decode cX10_hide 11 = .ok (.invokevirtual 89, 3) := by decide +kernel
theorem dX10_hide_14 : decode cX10_hide 14 = .ok (.aload_n 3, 1) := by decide +kernel
theorem dX10_hide_15 : decode cX10_hide 15 = .ok (.getfield 131, 3) := by decide +kernel
theorem dX10_hide_18 : decode cX10_hide 18 = .ok (.istore 4, 2) := by decide +kernel
theorem dX10_hide_20 : decode cX10_hide 20 = .ok (.aload_n 3, 1) := by decide +kernel
theorem dX10_hide_21 : decode cX10_hide 21 = .ok (.invokevirtual 110, 3) := by decide +kernel
theorem dX10_hide_24 : decode cX10_hide 24 = .ok (.istore 5, 2) := by decide +kernel
theorem dX10_hide_26 : decode cX10_hide 26 = .ok (.aload_n 3, 1) := by decide +kernel
theorem dX10_hide_27 : decode cX10_hide 27 = .ok (.iload_n 2, 1) := by decide +kernel
theorem dX10_hide_28 : decode cX10_hide 28 = .ok (.putfield 131, 3) := by decide +kernel
theorem dX10_hide_31 : decode cX10_hide 31 = .ok (.aload_n 0, 1) := by decide +kernel
theorem dX10_hide_32 : decode cX10_hide 32 = .ok (.getfield 10, 3) := by decide +kernel
theorem dX10_hide_35 : decode cX10_hide 35 = .ok (.invokevirtual 135, 3) := by decide +kernel
theorem dX10_hide_38 : decode cX10_hide 38 = .ok (.iload 5, 2) := by decide +kernel
theorem dX10_hide_40 : decode cX10_hide 40 = .ok (.ifCond .eq 30, 3) := by decide +kernel
theorem dX10_hide_43 : decode cX10_hide 43 = .ok (.iload_n 2, 1) := by decide +kernel
theorem dX10_hide_44 : decode cX10_hide 44 = .ok (.ifCond .eq 26, 3) := by decide +kernel
theorem dX10_hide_47 : decode cX10_hide 47 = .ok (.aload_n 0, 1) := by decide +kernel
theorem dX10_hide_48 : decode cX10_hide 48 = .ok (.getfield 28, 3) := by decide +kernel
theorem dX10_hide_51 : decode cX10_hide 51 = .ok (.aload_n 3, 1) := by decide +kernel
theorem dX10_hide_52 : decode cX10_hide 52 = .ok (.invokevirtual 124, 3) := by decide +kernel
theorem dX10_hide_55 : decode cX10_hide 55 = .ok (.aload_n 0, 1) := by decide +kernel
theorem dX10_hide_56 : decode cX10_hide 56 = .ok (.getfield 35, 3) := by decide +kernel
theorem dX10_hide_59 : decode cX10_hide 59 = .ok (.aload_n 3, 1) := by decide +kernel
theorem dX10_hide_60 : decode cX10_hide 60 = .ok (.aload_n 3, 1) := by decide +kernel
theorem dX10_hide_61 : decode cX10_hide 61 = .ok (.invokevirtual 113, 3) := by decide +kernel
theorem dX10_hide_64 : decode cX10_hide 64 = .ok (.invokevirtual 127, 3) := by decide +kernel
theorem dX10_hide_67 : decode cX10_hide 67 = .ok (.goto 20, 3) := by decide +kernel
theorem dX10_hide_70 : decode cX10_hide 70 = .ok (.iload 4, 2) := by decide +kernel
theorem dX10_hide_72 : decode cX10_hide 72 = .ok (.ifCond .eq 15, 3) := by decide +kernel
theorem dX10_hide_75 : decode cX10_hide 75 = .ok (.iload_n 2, 1) := by decide +kernel
theorem dX10_hide_76 : decode cX10_hide 76 = .ok (.ifCond .ne 11, 3) := by decide +kernel
theorem dX10_hide_79 : decode cX10_hide 79 = .ok (.aload_n 0, 1) := by decide +kernel
theorem dX10_hide_80 : decode cX10_hide 80 = .ok (.getfield 28, 3) := by decide +kernel
theorem dX10_hide_83 : decode cX10_hide 83 = .ok (.aload_n 3, 1) := by decide +kernel
theorem dX10_hide_84 : decode cX10_hide 84 = .ok (.invokevirtual 99, 3) := by decide +kernel
theorem dX10_hide_87 : decode cX10_hide 87 = .ok (.iload 4, 2) := by decide +kernel
theorem dX10_hide_89 : decode cX10_hide 89 = .ok (.ireturn, 1) := by decide +kernel
theorem dX10_rename_0 : decode cX10_rename 0 = .ok (.aload_n 0, 1) := by decide +kernel
theorem dX10_rename_1 : decode cX10_rename 1 = .ok (.iload_n 1, 1) := by decide +kernel
theorem dX10_rename_2 : decode cX10_rename 2 = .ok (.invokevirtual 71, 3) := by decide +kernel
theorem dX10_rename_5 : decode cX10_rename 5 = .ok (.astore_n 2, 1) := by decide +kernel
theorem dX10_rename_6 : decode cX10_rename 6 = .ok (.aload_n 2, 1) := by decide +kernel
theorem dX10_rename_7 : decode cX10_rename 7 = .ok (.invokestatic 107, 3) := by decide +kernel
theorem dX10_rename_10 : decode cX10_rename 10 = .ok (.aload_n 0, 1) := by decide +kernel
theorem dX10_rename_11 : decode cX10_rename 11 = .ok (.invokevirtual 89, 3) := by decide +kernel
theorem dX10_rename_14 : decode cX10_rename 14 = .ok (.aload_n 2, 1) := by decide +kernel
theorem dX10_rename_15 : decode cX10_rename 15 = .ok (.getfield 138, 3) := by decide +kernel
theorem dX10_rename_18 : decode cX10_rename 18 = .ok (.aload_n 0, 1) := by decide +kernel
theorem dX10_rename_19 : decode cX10_rename 19 = .ok (.getfield 44, 3) := by decide +kernel
theorem dX10_rename_22 : decode cX10_rename 22 = .ok (.invokevirtual 141, 3) := by decide +kernel
theorem dX10_rename_25 : decode cX10_rename 25 = .ok (.ifCond .ne 7, 3) := by decide +kernel
theorem dX10_rename_28 : decode cX10_rename 28 = .ok (.iconst 1, 1) := by decide +kernel
theorem dX10_rename_29 : decode cX10_rename 29 = .ok (.goto 4, 3) := by decide +kernel
theorem dX10_rename_32 : decode cX10_rename 32 = .ok (.iconst 0, 1) := by decide +kernel
theorem dX10_rename_33 : decode cX10_rename 33 = .ok (.istore_n 3, 1) := by decide +kernel
theorem dX10_rename_34 : decode cX10_rename 34 = .ok (.aload_n 2, 1) := by decide +kernel
theorem dX10_rename_35 : decode cX10_rename 35 = .ok (.getfield 138, 3) := by decide +kernel
theorem dX10_rename_38 : decode cX10_rename 38 = .ok (.aload_n 0, 1) := by decide +kernel
theorem dX10_rename_39 : decode cX10_rename 39 = .ok (.getfield 44, 3) := by decide +kernel
theorem dX10_rename_42 : decode cX10_rename 42 = .ok (.invokevirtual 145, 3) := by decide +kernel
theorem dX10_rename_45 : decode cX10_rename 45 = .ok (.aload_n 0, 1) := by decide +kernel
theorem dX10_rename_46 : decode cX10_rename 46 = .ok (.getfield 44, 3) := by decide +kernel
theorem dX10_rename_49 : decode cX10_rename 49 = .ok (.invokevirtual 96, 3) := by decide +kernel
theorem dX10_rename_52 : decode cX10_rename 52 = .ok (.iload_n 3, 1) := by decide +kernel
theorem dX10_rename_53 : decode cX10_rename 53 = .ok (.ifCond .eq 11, 3) := by decide +kernel
theorem dX10_rename_56 : decode cX10_rename 56 = .ok (.aload_n 0, 1) := by decide +kernel
theorem dX10_rename_57 : decode cX10_rename 57 = .ok (.getfield 28, 3) := by decide +kernel
theorem dX10_rename_60 : decode cX10_rename 60 = .ok (.aload_n 2, 1) := by decide +kernel
theorem dX10_rename_61 : decode cX10_rename 61 = .ok (.invokevirtual 99, 3) := by decide +kernel
theorem dX10_rename_64 : decode cX10_rename 64 = .ok (.aload_n 0, 1) := by decide +kernel
theorem dX10_rename_65 : decode cX10_rename 65 = .ok (.getfield 35, 3) := by decide +kernel
theorem dX10_rename_68 : decode cX10_rename 68 = .ok (.invokevirtual 149, 3) := by decide +kernel
theorem dX10_rename_71 : decode cX10_rename 71 = .ok (.aload_n 2, 1) := by decide +kernel
theorem dX10_rename_72 : decode cX10_rename 72 = .ok (.getfield 138, 3) := by decide +kernel
theorem dX10_rename_75 : decode cX10_rename 75 = .ok (.invokevirtual 59, 3) := by decide +kernel
theorem dX10_rename_78 : decode cX10_rename 78 = .ok (.ireturn, 1) := by decide +kernel
abbrev mX10_add : gM := (yX10_add, cX10_add, 6, (Option.some FieldType.int), [])
theorem caX10_add : cal mX10_add 3 := ⟨xw 958 (by decide +kernel) rfl, xw 29 (by decide +kernel) rfl, by decide, by decide +kernel⟩
theorem cvX10_add : calV mX10_add := ⟨xw 956 (by decide +kernel) rfl, xw 957 (by decide +kernel) rfl⟩
abbrev mX10_refuseScreen : gM := (yX10_refuseScreen, cX10_refuseScreen, 1, (Option.none : Option FieldType), [])
theorem caX10_refuseScreen : cal mX10_refuseScreen 1 := ⟨xw 1042 (by decide +kernel) rfl, xw 29 (by decide +kernel) rfl, by decide, by decide +kernel⟩
theorem csX10_refuseScreen : Cond.static yX10_refuseScreen ∈ XW := xw 1041 (by decide +kernel) rfl
abbrev mX10_remove : gM := (yX10_remove, cX10_remove, 6, (Option.some FieldType.int), [])
theorem caX10_remove : cal mX10_remove 1 := ⟨xw 1039 (by decide +kernel) rfl, xw 29 (by decide +kernel) rfl, by decide, by decide +kernel⟩
theorem cvX10_remove : calV mX10_remove := ⟨xw 1037 (by decide +kernel) rfl, xw 1038 (by decide +kernel) rfl⟩
abbrev mX10_hide : gM := (yX10_hide, cX10_hide, 6, (Option.some FieldType.boolean), [])
theorem caX10_hide : cal mX10_hide 2 := ⟨xw 1085 (by decide +kernel) rfl, xw 29 (by decide +kernel) rfl, by decide, by decide +kernel⟩
theorem cvX10_hide : calV mX10_hide := ⟨xw 1083 (by decide +kernel) rfl, xw 1084 (by decide +kernel) rfl⟩
abbrev mX10_rename : gM := (yX10_rename, cX10_rename, 4, (Option.some FieldType.int), [])
theorem caX10_rename : cal mX10_rename 1 := ⟨xw 1090 (by decide +kernel) rfl, xw 29 (by decide +kernel) rfl, by decide, by decide +kernel⟩
theorem cvX10_rename : calV mX10_rename := ⟨xw 1088 (by decide +kernel) rfl, xw 1089 (by decide +kernel) rfl⟩
theorem lkX10_71 : Cond.methodLink RX10 71 yX10_existing ∈ XW := xw 959 (by decide +kernel) rfl
theorem lkX10_75 : Cond.methodLink RX10 75 yX2_size ∈ XW := xw 980 (by decide +kernel) rfl
theorem lkX10_80 : Cond.methodLink RX10 80 yX7_hasRoom ∈ XW := xw 982 (by decide +kernel) rfl
theorem lkX10_84 : Cond.methodLink RX10 84 yX2_canHave ∈ XW := xw 986 (by decide +kernel) rfl
theorem lkX10_89 : Cond.methodLink RX10 89 yX10_refuseManyAlerts ∈ XW := xw 991 (by decide +kernel) rfl
theorem lkX10_92 : Cond.methodLink RX10 92 yX7_make ∈ XW := xw 996 (by decide +kernel) rfl
theorem lkX10_96 : Cond.methodLink RX10 96 yX1_clear ∈ XW := xw 1014 (by decide +kernel) rfl
theorem lkX10_99 : Cond.methodLink RX10 99 yX6_tellWords ∈ XW := xw 1015 (by decide +kernel) rfl
theorem flX10_103 : fl RX10 103 1 0 := ⟨by decide, by decide, xw 87 (by decide +kernel) rfl⟩
theorem flX10_178 : fl RX10 178 1 2 := ⟨by decide, by decide, xw 97 (by decide +kernel) rfl⟩
theorem lkX10_107 : Cond.methodLink RX10 107 yX10_refuseScreen ∈ XW := xw 1040 (by decide +kernel) rfl
theorem lkX10_110 : Cond.methodLink RX10 110 yX2_isShownNow ∈ XW := xw 1044 (by decide +kernel) rfl
theorem lkX10_113 : Cond.methodLink RX10 113 yX2_refuge ∈ XW := xw 1045 (by decide +kernel) rfl
theorem lkX10_117 : Cond.methodLink RX10 117 yX6_forgetWithin ∈ XW := xw 1050 (by decide +kernel) rfl
theorem lkX10_120 : Cond.methodLink RX10 120 yX7_takeOut ∈ XW := xw 1058 (by decide +kernel) rfl
theorem lkX10_124 : Cond.methodLink RX10 124 yX6_tellGone ∈ XW := xw 1067 (by decide +kernel) rfl
theorem lkX10_127 : Cond.methodLink RX10 127 yX5_lose ∈ XW := xw 1075 (by decide +kernel) rfl
theorem flX10_131 : fl RX10 131 1 7 := ⟨by decide, by decide, xw 111 (by decide +kernel) rfl⟩
theorem lkX10_135 : Cond.methodLink RX10 135 yX7_reorder ∈ XW := xw 1086 (by decide +kernel) rfl
theorem flX10_138 : fl RX10 138 1 5 := ⟨by decide, by decide, xw 102 (by decide +kernel) rfl⟩
theorem lkX10_141 : Cond.methodLink RX10 141 yX1_isSame ∈ XW := xw 1091 (by decide +kernel) rfl
theorem lkX10_145 : Cond.methodLink RX10 145 yX1_copy ∈ XW := xw 1095 (by decide +kernel) rfl
theorem lkX10_149 : Cond.methodLink RX10 149 yX5_refreshPins ∈ XW := xw 1096 (by decide +kernel) rfl
/-! BrailleDesk.add -/
theorem tX10_add {G : gG} (a0 : Nat) (a1 : Int32) (a2 : Int32) (a3 : Int32) (h : hp) (Q : hQ) (hF : okB (fX10_add a0 a1 a2 a3 h) (pX gI Q)) : gS G mX10_add 54 10 343 [sr (some a0), si a1, si a2, si a3] h Q := by
  delta fX10_add at hF
  refine gS_at [some (sr (some a0)), some (si a1), some (si a2), some (si a3), none, none] pl_X10 rfl (Nat.le_of_ble_eq_true rfl) rfl ?_
  refine v_aload_n (pc := 0) (i := 0) dX10_add_0 rfl rfl ?_
  refine v_iload_n (pc := 1) (i := 1) dX10_add_1 rfl rfl ?_
  refine ct_V (pc := 2) gR (as := [si a1]) (st := []) (ci := 9) (N := mX10_existing) (k := 9) (n := 337) (k1 := 1) (n1 := 6) dX10_add_2 lkX10_71 caX10_existing cvX10_existing rfl (by decide) rfl (fun b Q1 hq => tX10_existing b a1 h Q1 hq) ⟨by decide, by decide⟩ (Nat.le_of_ble_eq_true rfl) rfl hF (fun E hp => hp) (fun x1 hF => ?_)
  show gV G mX10_add 54 Q 5 [some (sr (some a0)), some (si a1), some (si a2), some (si a3), none, none] [sr x1] (9) (337) h
  refine v_astore (pc := 5) (i := 4) [some (sr (some a0)), some (si a1), some (si a2), some (si a3), some (sr x1), none] dX10_add_5 (by decide) rfl rfl ?_
  refine v_iload_n (pc := 7) (i := 2) dX10_add_7 rfl rfl ?_
  refine v_if_lt (pc := 8) 30 dX10_add_8 rfl (fun hc => ?_) (fun hc => ?_)
  · replace hF := (okB_if hF).1 hc
    exact v_throw (pc := 30) (k := 8) (n := 331) 11 dX10_add_30 dX10_add_33 dX10_add_34 dX10_add_36 dX10_add_39 rfl tfit_IllegalArgumentException tnames twX10_52_56 rfl (by decide) (Nat.le_of_ble_eq_true rfl) rfl (okr hF fun q => q)
  replace hF := (okB_if hF).2 hc
  refine v_iload_n (pc := 11) (i := 2) dX10_add_11 rfl rfl ?_
  refine v_aload (pc := 12) (i := 4) dX10_add_12 rfl ?_
  refine cp_V (pc := 14) gI (as := []) (st := [si a2]) (ci := 1) (N := mX2_size) (k := 9) (n := 337) (k1 := 0) (n1 := 0) dX10_add_14 lkX10_75 caX2_size cvX2_size rfl (by decide) rfl (fun b Q1 hq => tX2_size b h Q1 hq) ⟨by decide, by decide⟩ (Nat.le_of_ble_eq_true rfl) rfl hF (fun x2 hF => ?_)
  show gV G mX10_add 54 Q 17 [some (sr (some a0)), some (si a1), some (si a2), some (si a3), some (sr x1), none] [si x2, si a2] (9) (337) h
  refine v_icmp_gt (pc := 17) 30 dX10_add_17 rfl (fun hc => ?_) (fun hc => ?_)
  · replace hF := (okB_if hF).1 hc
    exact v_throw (pc := 30) (k := 8) (n := 331) 11 dX10_add_30 dX10_add_33 dX10_add_34 dX10_add_36 dX10_add_39 rfl tfit_IllegalArgumentException tnames twX10_52_56 rfl (by decide) (Nat.le_of_ble_eq_true rfl) rfl (okr hF fun q => q)
  replace hF := (okB_if hF).2 hc
  refine v_iload_n (pc := 20) (i := 3) dX10_add_20 rfl rfl ?_
  refine v_if_lt (pc := 21) 30 dX10_add_21 rfl (fun hc => ?_) (fun hc => ?_)
  · replace hF := (okB_if hF).1 hc
    exact v_throw (pc := 30) (k := 8) (n := 331) 11 dX10_add_30 dX10_add_33 dX10_add_34 dX10_add_36 dX10_add_39 rfl tfit_IllegalArgumentException tnames twX10_52_56 rfl (by decide) (Nat.le_of_ble_eq_true rfl) rfl (okr hF fun q => q)
  replace hF := (okB_if hF).2 hc
  refine v_iload_n (pc := 24) (i := 3) dX10_add_24 rfl rfl ?_
  refine v_bipush (pc := 25) (v := (7 : Int32)) dX10_add_25 rfl ?_
  refine v_icmp_le (pc := 27) 40 dX10_add_27 rfl (fun hc => ?_) (fun hc => ?_)
  · replace hF := (okB_if hF).1 hc
    refine v_aload_n (pc := 40) (i := 0) dX10_add_40 rfl rfl ?_
    refine s_getR (pc := 41) dX10_add_41 flX10_10 rfl hF (fun x3 hF => ?_)
    refine cp_V (pc := 44) gI (as := []) (st := []) (ci := 6) (N := mX7_hasRoom) (k := 9) (n := 337) (k1 := 0) (n1 := 0) dX10_add_44 lkX10_80 caX7_hasRoom cvX7_hasRoom rfl (by decide) rfl (fun b Q1 hq => tX7_hasRoom b h Q1 hq) ⟨by decide, by decide⟩ (Nat.le_of_ble_eq_true rfl) rfl hF (fun x4 hF => ?_)
    show gV G mX10_add 54 Q 47 [some (sr (some a0)), some (si a1), some (si a2), some (si a3), some (sr x1), none] [si x4] (9) (337) h
    refine v_if_eq (pc := 47) 69 dX10_add_47 rfl (fun hc => ?_) (fun hc => ?_)
    · replace hF := (okB_if hF).1 hc
      exact v_throw (pc := 69) (k := 8) (n := 331) 12 dX10_add_69 dX10_add_72 dX10_add_73 dX10_add_75 dX10_add_78 rfl tfit_IllegalStateException tnames twX10_63_67 rfl (by decide) (Nat.le_of_ble_eq_true rfl) rfl (okr hF fun q => q)
    replace hF := (okB_if hF).2 hc
    refine v_aload (pc := 50) (i := 4) dX10_add_50 rfl ?_
    refine cp_V (pc := 52) gI (as := []) (st := []) (ci := 1) (N := mX2_size) (k := 9) (n := 337) (k1 := 0) (n1 := 0) dX10_add_52 lkX10_75 caX2_size cvX2_size rfl (by decide) rfl (fun b Q1 hq => tX2_size b h Q1 hq) ⟨by decide, by decide⟩ (Nat.le_of_ble_eq_true rfl) rfl hF (fun x5 hF => ?_)
    show gV G mX10_add 54 Q 55 [some (sr (some a0)), some (si a1), some (si a2), some (si a3), some (sr x1), none] [si x5] (9) (337) h
    refine v_bipush (pc := 55) (v := (10 : Int32)) dX10_add_55 rfl ?_
    refine v_icmp_ge (pc := 57) 69 dX10_add_57 rfl (fun hc => ?_) (fun hc => ?_)
    · replace hF := (okB_if hF).1 hc
      exact v_throw (pc := 69) (k := 8) (n := 331) 12 dX10_add_69 dX10_add_72 dX10_add_73 dX10_add_75 dX10_add_78 rfl tfit_IllegalStateException tnames twX10_63_67 rfl (by decide) (Nat.le_of_ble_eq_true rfl) rfl (okr hF fun q => q)
    replace hF := (okB_if hF).2 hc
    refine v_aload (pc := 60) (i := 4) dX10_add_60 rfl ?_
    refine v_iload_n (pc := 62) (i := 3) dX10_add_62 rfl rfl ?_
    refine cp_V (pc := 63) gI (as := [si a3]) (st := []) (ci := 1) (N := mX2_canHave) (k := 9) (n := 337) (k1 := 0) (n1 := 0) dX10_add_63 lkX10_84 caX2_canHave cvX2_canHave rfl (by decide) rfl (fun b Q1 hq => tX2_canHave b a3 h Q1 hq) ⟨by decide, by decide⟩ (Nat.le_of_ble_eq_true rfl) rfl hF (fun x6 hF => ?_)
    show gV G mX10_add 54 Q 66 [some (sr (some a0)), some (si a1), some (si a2), some (si a3), some (sr x1), none] [si x6] (9) (337) h
    refine v_if_ne (pc := 66) 79 dX10_add_66 rfl (fun hc => ?_) (fun hc => ?_)
    · replace hF := (okB_if hF).2 hc
      refine v_aload_n (pc := 79) (i := 0) dX10_add_79 rfl rfl ?_
      refine ct_V (pc := 80) gU (as := []) (st := []) (ci := 9) (N := mX10_refuseManyAlerts) (k := 8) (n := 331) (k1 := 1) (n1 := 6) dX10_add_80 lkX10_89 caX10_refuseManyAlerts cvX10_refuseManyAlerts rfl (by decide) rfl (fun b Q1 hq => tX10_refuseManyAlerts b h Q1 hq) ⟨by decide, by decide⟩ (Nat.le_of_ble_eq_true rfl) rfl hF (fun E hp => hp) (fun x7 hF => ?_)
      show gV G mX10_add 54 Q 83 [some (sr (some a0)), some (si a1), some (si a2), some (si a3), some (sr x1), none] [] (8) (331) h
      refine v_aload_n (pc := 83) (i := 0) dX10_add_83 rfl rfl ?_
      refine s_getR (pc := 84) dX10_add_84 flX10_10 rfl hF (fun x8 hF => ?_)
      refine v_aload (pc := 87) (i := 4) dX10_add_87 rfl ?_
      refine v_iload_n (pc := 89) (i := 2) dX10_add_89 rfl rfl ?_
      refine v_iload_n (pc := 90) (i := 3) dX10_add_90 rfl rfl ?_
      refine v_aload_n (pc := 91) (i := 0) dX10_add_91 rfl rfl ?_
      refine s_getR (pc := 92) dX10_add_92 flX10_44 rfl hF (fun x9 hF => ?_)
      refine ch_V (pc := 95) gR (as := [sr x1, si a2, si a3, sr x9]) (st := []) (ci := 6) (N := mX7_make) (k := 0) (n := 0) (k1 := 8) (n1 := 331) dX10_add_95 lkX10_92 caX7_make cvX7_make rfl (by decide) rfl (fun b Q1 hq => tX7_make b x1 a2 a3 x9 h Q1 hq) ⟨by decide, by decide⟩ (Nat.le_of_ble_eq_true rfl) rfl hF (fun x10 h11 hF => ?_)
      show gV G mX10_add 54 Q 98 [some (sr (some a0)), some (si a1), some (si a2), some (si a3), some (sr x1), none] [sr x10] (0) (0) h11
      refine v_astore (pc := 98) (i := 5) [some (sr (some a0)), some (si a1), some (si a2), some (si a3), some (sr x1), some (sr x10)] dX10_add_98 (by decide) rfl rfl ?_
      refine v_aload_n (pc := 100) (i := 0) dX10_add_100 rfl rfl ?_
      refine s_getR (pc := 101) dX10_add_101 flX10_44 rfl hF (fun x12 hF => ?_)
      refine ch_V (pc := 104) gU (as := []) (st := []) (ci := 0) (N := mX1_clear) (k := 0) (n := 0) (k1 := 0) (n1 := 0) dX10_add_104 lkX10_96 caX1_clear cvX1_clear rfl (by decide) rfl (fun b Q1 hq => tX1_clear b h11 Q1 hq) ⟨by decide, by decide⟩ (Nat.le_of_ble_eq_true rfl) rfl hF (fun x13 h14 hF => ?_)
      show gV G mX10_add 54 Q 107 [some (sr (some a0)), some (si a1), some (si a2), some (si a3), some (sr x1), some (sr x10)] [] (0) (0) h14
      refine v_aload_n (pc := 107) (i := 0) dX10_add_107 rfl rfl ?_
      refine s_getR (pc := 108) dX10_add_108 flX10_28 rfl hF (fun x15 hF => ?_)
      refine v_aload (pc := 111) (i := 5) dX10_add_111 rfl ?_
      refine ch_V (pc := 113) gU (as := [sr x10]) (st := []) (ci := 5) (N := mX6_tellWords) (k := 0) (n := 0) (k1 := 0) (n1 := 0) dX10_add_113 lkX10_99 caX6_tellWords cvX6_tellWords rfl (by decide) rfl (fun b Q1 hq => tX6_tellWords b x10 h14 Q1 hq) ⟨by decide, by decide⟩ (Nat.le_of_ble_eq_true rfl) rfl hF (fun x16 h17 hF => ?_)
      show gV G mX10_add 54 Q 116 [some (sr (some a0)), some (si a1), some (si a2), some (si a3), some (sr x1), some (sr x10)] [] (0) (0) h17
      refine v_aload (pc := 116) (i := 5) dX10_add_116 rfl ?_
      refine s_getI (pc := 118) dX10_add_118 flX10_103 rfl hF (fun x18 hF => ?_)
      exact v_iret (pc := 121) dX10_add_121 rfl rfl (okr hF fun q => q)
    replace hF := (okB_if hF).1 hc
    exact v_throw (pc := 69) (k := 8) (n := 331) 12 dX10_add_69 dX10_add_72 dX10_add_73 dX10_add_75 dX10_add_78 rfl tfit_IllegalStateException tnames twX10_63_67 rfl (by decide) (Nat.le_of_ble_eq_true rfl) rfl (okr hF fun q => q)
  replace hF := (okB_if hF).2 hc
  exact v_throw (pc := 30) (k := 8) (n := 331) 11 dX10_add_30 dX10_add_33 dX10_add_34 dX10_add_36 dX10_add_39 rfl tfit_IllegalArgumentException tnames twX10_52_56 rfl (by decide) (Nat.le_of_ble_eq_true rfl) rfl (okr hF fun q => q)
/-! BrailleDesk.refuseScreen -/
theorem tX10_refuseScreen {G : gG} (a0 : (Option Nat)) (h : hp) (Q : hQ) (hF : okB (fX10_refuseScreen a0 h) (pC gU Q h)) : gS G mX10_refuseScreen 6 1 6 [sr a0] h Q := by
  delta fX10_refuseScreen at hF
  refine gS_at [some (sr a0)] pl_X10 rfl (Nat.le_of_ble_eq_true rfl) rfl ?_
  refine v_aload_n (pc := 0) (i := 0) dX10_refuseScreen_0 rfl rfl ?_
  refine s_getR (pc := 1) dX10_refuseScreen_1 flX10_178 rfl hF (fun x1 hF => ?_)
  refine s_ifnonnull (pc := 4) 18 dX10_refuseScreen_4 rfl hF (fun hF => ?_) (fun hF => ?_)
  · exact v_ret (pc := 18) dX10_refuseScreen_18 rfl (okr hF fun q => q)
  exact v_throwW (pc := 7) (k := 0) (n := 0) 17 dX10_refuseScreen_7 dX10_refuseScreen_10 dX10_refuseScreen_11 dX10_refuseScreen_14 dX10_refuseScreen_17 rfl tfit_IllegalStateException tnames twX10_63_67 rfl (by decide) (Nat.le_of_ble_eq_true rfl) rfl (okr hF fun q => q)
/-! BrailleDesk.remove -/
theorem tX10_remove {G : gG} (a0 : Nat) (a1 : Int32) (h : hp) (Q : hQ) (hF : okB (fX10_remove a0 a1 h) (pX gI Q)) : gS G mX10_remove 54 3 18 [sr (some a0), si a1] h Q := by
  delta fX10_remove at hF
  refine gS_at [some (sr (some a0)), some (si a1), none, none, none, none] pl_X10 rfl (Nat.le_of_ble_eq_true rfl) rfl ?_
  refine v_aload_n (pc := 0) (i := 0) dX10_remove_0 rfl rfl ?_
  refine v_iload_n (pc := 1) (i := 1) dX10_remove_1 rfl rfl ?_
  refine ct_V (pc := 2) gR (as := [si a1]) (st := []) (ci := 9) (N := mX10_existing) (k := 2) (n := 12) (k1 := 1) (n1 := 6) dX10_remove_2 lkX10_71 caX10_existing cvX10_existing rfl (by decide) rfl (fun b Q1 hq => tX10_existing b a1 h Q1 hq) ⟨by decide, by decide⟩ (Nat.le_of_ble_eq_true rfl) rfl hF (fun E hp => hp) (fun x1 hF => ?_)
  show gV G mX10_remove 54 Q 5 [some (sr (some a0)), some (si a1), none, none, none, none] [sr x1] (2) (12) h
  refine v_astore_n (pc := 5) (i := 2) [some (sr (some a0)), some (si a1), some (sr x1), none, none, none] dX10_remove_5 rfl (by decide) rfl rfl ?_
  refine v_aload_n (pc := 6) (i := 2) dX10_remove_6 rfl rfl ?_
  refine ct_S (pc := 7) gU (as := [sr x1]) (st := []) (N := mX10_refuseScreen) (k := 1) (n := 6) (k1 := 1) (n1 := 6) dX10_remove_7 lkX10_107 caX10_refuseScreen csX10_refuseScreen rfl (fun Q1 hq => tX10_refuseScreen x1 h Q1 hq) ⟨by decide, by decide⟩ (Nat.le_of_ble_eq_true rfl) rfl hF (fun E hp => hp) (fun x2 hF => ?_)
  show gV G mX10_remove 54 Q 10 [some (sr (some a0)), some (si a1), some (sr x1), none, none, none] [] (1) (6) h
  refine v_aload_n (pc := 10) (i := 0) dX10_remove_10 rfl rfl ?_
  refine ct_V (pc := 11) gU (as := []) (st := []) (ci := 9) (N := mX10_refuseManyAlerts) (k := 0) (n := 0) (k1 := 1) (n1 := 6) dX10_remove_11 lkX10_89 caX10_refuseManyAlerts cvX10_refuseManyAlerts rfl (by decide) rfl (fun b Q1 hq => tX10_refuseManyAlerts b h Q1 hq) ⟨by decide, by decide⟩ (Nat.le_of_ble_eq_true rfl) rfl hF (fun E hp => hp) (fun x3 hF => ?_)
  show gV G mX10_remove 54 Q 14 [some (sr (some a0)), some (si a1), some (sr x1), none, none, none] [] (0) (0) h
  refine v_aload_n (pc := 14) (i := 2) dX10_remove_14 rfl rfl ?_
  refine cp_V (pc := 15) gI (as := []) (st := []) (ci := 1) (N := mX2_isShownNow) (k := 0) (n := 0) (k1 := 0) (n1 := 0) dX10_remove_15 lkX10_110 caX2_isShownNow cvX2_isShownNow rfl (by decide) rfl (fun b Q1 hq => tX2_isShownNow b h Q1 hq) ⟨by decide, by decide⟩ (Nat.le_of_ble_eq_true rfl) rfl hF (fun x4 hF => ?_)
  show gV G mX10_remove 54 Q 18 [some (sr (some a0)), some (si a1), some (sr x1), none, none, none] [si x4] (0) (0) h
  refine v_istore_n (pc := 18) (i := 3) [some (sr (some a0)), some (si a1), some (sr x1), some (si x4), none, none] dX10_remove_18 rfl (by decide) rfl rfl ?_
  refine v_aload_n (pc := 19) (i := 2) dX10_remove_19 rfl rfl ?_
  refine cp_V (pc := 20) gR (as := []) (st := []) (ci := 1) (N := mX2_refuge) (k := 0) (n := 0) (k1 := 0) (n1 := 0) dX10_remove_20 lkX10_113 caX2_refuge cvX2_refuge rfl (by decide) rfl (fun b Q1 hq => tX2_refuge b h Q1 hq) ⟨by decide, by decide⟩ (Nat.le_of_ble_eq_true rfl) rfl hF (fun x5 hF => ?_)
  show gV G mX10_remove 54 Q 23 [some (sr (some a0)), some (si a1), some (sr x1), some (si x4), none, none] [sr x5] (0) (0) h
  refine v_astore (pc := 23) (i := 4) [some (sr (some a0)), some (si a1), some (sr x1), some (si x4), some (sr x5), none] dX10_remove_23 (by decide) rfl rfl ?_
  refine v_aload_n (pc := 25) (i := 0) dX10_remove_25 rfl rfl ?_
  refine s_getR (pc := 26) dX10_remove_26 flX10_28 rfl hF (fun x6 hF => ?_)
  refine v_aload_n (pc := 29) (i := 2) dX10_remove_29 rfl rfl ?_
  refine ch_V (pc := 30) gU (as := [sr x1]) (st := []) (ci := 5) (N := mX6_forgetWithin) (k := 0) (n := 0) (k1 := 0) (n1 := 0) dX10_remove_30 lkX10_117 caX6_forgetWithin cvX6_forgetWithin rfl (by decide) rfl (fun b Q1 hq => tX6_forgetWithin b x1 h Q1 hq) ⟨by decide, by decide⟩ (Nat.le_of_ble_eq_true rfl) rfl hF (fun x7 h8 hF => ?_)
  show gV G mX10_remove 54 Q 33 [some (sr (some a0)), some (si a1), some (sr x1), some (si x4), some (sr x5), none] [] (0) (0) h8
  refine v_aload_n (pc := 33) (i := 0) dX10_remove_33 rfl rfl ?_
  refine s_getR (pc := 34) dX10_remove_34 flX10_10 rfl hF (fun x9 hF => ?_)
  refine v_aload_n (pc := 37) (i := 2) dX10_remove_37 rfl rfl ?_
  refine ch_V (pc := 38) gI (as := [sr x1]) (st := []) (ci := 6) (N := mX7_takeOut) (k := 0) (n := 0) (k1 := 0) (n1 := 0) dX10_remove_38 lkX10_120 caX7_takeOut cvX7_takeOut rfl (by decide) rfl (fun b Q1 hq => tX7_takeOut b x1 h8 Q1 hq) ⟨by decide, by decide⟩ (Nat.le_of_ble_eq_true rfl) rfl hF (fun x10 h11 hF => ?_)
  show gV G mX10_remove 54 Q 41 [some (sr (some a0)), some (si a1), some (sr x1), some (si x4), some (sr x5), none] [si x10] (0) (0) h11
  refine v_istore (pc := 41) (i := 5) [some (sr (some a0)), some (si a1), some (sr x1), some (si x4), some (sr x5), some (si x10)] dX10_remove_41 (by decide) rfl rfl ?_
  refine v_iload_n (pc := 43) (i := 3) dX10_remove_43 rfl rfl ?_
  refine mg (X := fun q12 => gV G mX10_remove 54 Q 55 [some (sr (some a0)), none, some (sr x1), none, some (sr x5), some (si x10)] [] (0) (0) q12) hF (fun _ hj13 hF => ?_) (fun q12 hF => ?_)
  · refine v_if_eq (pc := 44) 55 dX10_remove_44 rfl (fun hc => ?_) (fun hc => ?_)
    · replace hF := (okB_if hF).1 hc
      exact v_lle [some (sr (some a0)), none, some (sr x1), none, some (sr x5), some (si x10)] ⟨rfl, rfl, rfl, rfl, trivial⟩ (hj13 h11 (okB_some hF))
    replace hF := (okB_if hF).2 hc
    refine v_aload_n (pc := 47) (i := 0) dX10_remove_47 rfl rfl ?_
    refine s_getR (pc := 48) dX10_remove_48 flX10_28 rfl hF (fun x14 hF => ?_)
    refine v_aload_n (pc := 51) (i := 2) dX10_remove_51 rfl rfl ?_
    refine ch_V (pc := 52) gU (as := [sr x1]) (st := []) (ci := 5) (N := mX6_tellGone) (k := 0) (n := 0) (k1 := 0) (n1 := 0) dX10_remove_52 lkX10_124 caX6_tellGone cvX6_tellGone rfl (by decide) rfl (fun b Q1 hq => tX6_tellGone b x1 h11 Q1 hq) ⟨by decide, by decide⟩ (Nat.le_of_ble_eq_true rfl) rfl hF (fun x15 h16 hF => ?_)
    show gV G mX10_remove 54 Q 55 [some (sr (some a0)), some (si a1), some (sr x1), some (si x4), some (sr x5), some (si x10)] [] (0) (0) h16
    exact v_lle [some (sr (some a0)), none, some (sr x1), none, some (sr x5), some (si x10)] ⟨rfl, rfl, rfl, rfl, trivial⟩ (hj13 h16 (okB_some hF))
  refine v_aload_n (pc := 55) (i := 0) dX10_remove_55 rfl rfl ?_
  refine s_getR (pc := 56) dX10_remove_56 flX10_35 rfl hF (fun x17 hF => ?_)
  refine v_aload_n (pc := 59) (i := 2) dX10_remove_59 rfl rfl ?_
  refine v_aload (pc := 60) (i := 4) dX10_remove_60 rfl ?_
  refine ch_V (pc := 62) gU (as := [sr x1, sr x5]) (st := []) (ci := 4) (N := mX5_lose) (k := 0) (n := 0) (k1 := 0) (n1 := 0) dX10_remove_62 lkX10_127 caX5_lose cvX5_lose rfl (by decide) rfl (fun b Q1 hq => tX5_lose b x1 x5 q12 Q1 hq) ⟨by decide, by decide⟩ (Nat.le_of_ble_eq_true rfl) rfl hF (fun x18 h19 hF => ?_)
  show gV G mX10_remove 54 Q 65 [some (sr (some a0)), none, some (sr x1), none, some (sr x5), some (si x10)] [] (0) (0) h19
  refine v_iload (pc := 65) (i := 5) dX10_remove_65 rfl ?_
  exact v_iret (pc := 67) dX10_remove_67 rfl rfl (okr hF fun q => q)
/-! BrailleDesk.hide -/
theorem tX10_hide {G : gG} (a0 : Nat) (a1 : Int32) (a2 : Int32) (h : hp) (Q : hQ) (hF : okB (fX10_hide a0 a1 a2 h) (pX gI Q)) : gS G mX10_hide 53 3 18 [sr (some a0), si a1, si a2] h Q := by
  delta fX10_hide at hF
  refine gS_at [some (sr (some a0)), some (si a1), some (si a2), none, none, none] pl_X10 rfl (Nat.le_of_ble_eq_true rfl) rfl ?_
  refine v_aload_n (pc := 0) (i := 0) dX10_hide_0 rfl rfl ?_
  refine v_iload_n (pc := 1) (i := 1) dX10_hide_1 rfl rfl ?_
  refine ct_V (pc := 2) gR (as := [si a1]) (st := []) (ci := 9) (N := mX10_existing) (k := 2) (n := 12) (k1 := 1) (n1 := 6) dX10_hide_2 lkX10_71 caX10_existing cvX10_existing rfl (by decide) rfl (fun b Q1 hq => tX10_existing b a1 h Q1 hq) ⟨by decide, by decide⟩ (Nat.le_of_ble_eq_true rfl) rfl hF (fun E hp => hp) (fun x1 hF => ?_)
  show gV G mX10_hide 53 Q 5 [some (sr (some a0)), some (si a1), some (si a2), none, none, none] [sr x1] (2) (12) h
  refine v_astore_n (pc := 5) (i := 3) [some (sr (some a0)), some (si a1), some (si a2), some (sr x1), none, none] dX10_hide_5 rfl (by decide) rfl rfl ?_
  refine v_aload_n (pc := 6) (i := 3) dX10_hide_6 rfl rfl ?_
  refine ct_S (pc := 7) gU (as := [sr x1]) (st := []) (N := mX10_refuseScreen) (k := 1) (n := 6) (k1 := 1) (n1 := 6) dX10_hide_7 lkX10_107 caX10_refuseScreen csX10_refuseScreen rfl (fun Q1 hq => tX10_refuseScreen x1 h Q1 hq) ⟨by decide, by decide⟩ (Nat.le_of_ble_eq_true rfl) rfl hF (fun E hp => hp) (fun x2 hF => ?_)
  show gV G mX10_hide 53 Q 10 [some (sr (some a0)), some (si a1), some (si a2), some (sr x1), none, none] [] (1) (6) h
  refine v_aload_n (pc := 10) (i := 0) dX10_hide_10 rfl rfl ?_
  refine ct_V (pc := 11) gU (as := []) (st := []) (ci := 9) (N := mX10_refuseManyAlerts) (k := 0) (n := 0) (k1 := 1) (n1 := 6) dX10_hide_11 lkX10_89 caX10_refuseManyAlerts cvX10_refuseManyAlerts rfl (by decide) rfl (fun b Q1 hq => tX10_refuseManyAlerts b h Q1 hq) ⟨by decide, by decide⟩ (Nat.le_of_ble_eq_true rfl) rfl hF (fun E hp => hp) (fun x3 hF => ?_)
  show gV G mX10_hide 53 Q 14 [some (sr (some a0)), some (si a1), some (si a2), some (sr x1), none, none] [] (0) (0) h
  refine v_aload_n (pc := 14) (i := 3) dX10_hide_14 rfl rfl ?_
  refine s_getI (pc := 15) dX10_hide_15 flX10_131 rfl hF (fun x4 hF => ?_)
  refine v_istore (pc := 18) (i := 4) [some (sr (some a0)), some (si a1), some (si a2), some (sr x1), some (si x4), none] dX10_hide_18 (by decide) rfl rfl ?_
  refine v_aload_n (pc := 20) (i := 3) dX10_hide_20 rfl rfl ?_
  refine cp_V (pc := 21) gI (as := []) (st := []) (ci := 1) (N := mX2_isShownNow) (k := 0) (n := 0) (k1 := 0) (n1 := 0) dX10_hide_21 lkX10_110 caX2_isShownNow cvX2_isShownNow rfl (by decide) rfl (fun b Q1 hq => tX2_isShownNow b h Q1 hq) ⟨by decide, by decide⟩ (Nat.le_of_ble_eq_true rfl) rfl hF (fun x5 hF => ?_)
  show gV G mX10_hide 53 Q 24 [some (sr (some a0)), some (si a1), some (si a2), some (sr x1), some (si x4), none] [si x5] (0) (0) h
  refine v_istore (pc := 24) (i := 5) [some (sr (some a0)), some (si a1), some (si a2), some (sr x1), some (si x4), some (si x5)] dX10_hide_24 (by decide) rfl rfl ?_
  refine v_aload_n (pc := 26) (i := 3) dX10_hide_26 rfl rfl ?_
  refine v_iload_n (pc := 27) (i := 2) dX10_hide_27 rfl rfl ?_
  refine s_putZ (pc := 28) dX10_hide_28 flX10_131 (Or.inl rfl) rfl hF (fun h6 hF => ?_)
  refine v_aload_n (pc := 31) (i := 0) dX10_hide_31 rfl rfl ?_
  refine s_getR (pc := 32) dX10_hide_32 flX10_10 rfl hF (fun x7 hF => ?_)
  refine ch_V (pc := 35) gU (as := []) (st := []) (ci := 6) (N := mX7_reorder) (k := 0) (n := 0) (k1 := 0) (n1 := 0) dX10_hide_35 lkX10_135 caX7_reorder cvX7_reorder rfl (by decide) rfl (fun b Q1 hq => tX7_reorder b h6 Q1 hq) ⟨by decide, by decide⟩ (Nat.le_of_ble_eq_true rfl) rfl hF (fun x8 h9 hF => ?_)
  show gV G mX10_hide 53 Q 38 [some (sr (some a0)), some (si a1), some (si a2), some (sr x1), some (si x4), some (si x5)] [] (0) (0) h9
  refine v_iload (pc := 38) (i := 5) dX10_hide_38 rfl ?_
  refine v_if_eq (pc := 40) 70 dX10_hide_40 rfl (fun hc => ?_) (fun hc => ?_)
  · replace hF := (okB_if hF).1 hc
    refine v_iload (pc := 70) (i := 4) dX10_hide_70 rfl ?_
    refine v_if_eq (pc := 72) 87 dX10_hide_72 rfl (fun hc => ?_) (fun hc => ?_)
    · replace hF := (okB_if hF).1 hc
      refine v_iload (pc := 87) (i := 4) dX10_hide_87 rfl ?_
      exact s_zret (pc := 89) dX10_hide_89 rfl hF (fun hF => (okr hF fun q => q))
    replace hF := (okB_if hF).2 hc
    refine v_iload_n (pc := 75) (i := 2) dX10_hide_75 rfl rfl ?_
    refine v_if_ne (pc := 76) 87 dX10_hide_76 rfl (fun hc => ?_) (fun hc => ?_)
    · replace hF := (okB_if hF).2 hc
      refine v_iload (pc := 87) (i := 4) dX10_hide_87 rfl ?_
      exact s_zret (pc := 89) dX10_hide_89 rfl hF (fun hF => (okr hF fun q => q))
    replace hF := (okB_if hF).1 hc
    refine v_aload_n (pc := 79) (i := 0) dX10_hide_79 rfl rfl ?_
    refine s_getR (pc := 80) dX10_hide_80 flX10_28 rfl hF (fun x10 hF => ?_)
    refine v_aload_n (pc := 83) (i := 3) dX10_hide_83 rfl rfl ?_
    refine ch_V (pc := 84) gU (as := [sr x1]) (st := []) (ci := 5) (N := mX6_tellWords) (k := 0) (n := 0) (k1 := 0) (n1 := 0) dX10_hide_84 lkX10_99 caX6_tellWords cvX6_tellWords rfl (by decide) rfl (fun b Q1 hq => tX6_tellWords b x1 h9 Q1 hq) ⟨by decide, by decide⟩ (Nat.le_of_ble_eq_true rfl) rfl hF (fun x11 h12 hF => ?_)
    show gV G mX10_hide 53 Q 87 [some (sr (some a0)), some (si a1), some (si a2), some (sr x1), some (si x4), some (si x5)] [] (0) (0) h12
    refine v_iload (pc := 87) (i := 4) dX10_hide_87 rfl ?_
    exact s_zret (pc := 89) dX10_hide_89 rfl hF (fun hF => (okr hF fun q => q))
  replace hF := (okB_if hF).2 hc
  refine v_iload_n (pc := 43) (i := 2) dX10_hide_43 rfl rfl ?_
  refine v_if_eq (pc := 44) 70 dX10_hide_44 rfl (fun hc => ?_) (fun hc => ?_)
  · replace hF := (okB_if hF).1 hc
    refine v_iload (pc := 70) (i := 4) dX10_hide_70 rfl ?_
    refine v_if_eq (pc := 72) 87 dX10_hide_72 rfl (fun hc => ?_) (fun hc => ?_)
    · replace hF := (okB_if hF).1 hc
      refine v_iload (pc := 87) (i := 4) dX10_hide_87 rfl ?_
      exact s_zret (pc := 89) dX10_hide_89 rfl hF (fun hF => (okr hF fun q => q))
    replace hF := (okB_if hF).2 hc
    refine v_iload_n (pc := 75) (i := 2) dX10_hide_75 rfl rfl ?_
    refine v_if_ne (pc := 76) 87 dX10_hide_76 rfl (fun hc => ?_) (fun hc => ?_)
    · replace hF := (okB_if hF).2 hc
      refine v_iload (pc := 87) (i := 4) dX10_hide_87 rfl ?_
      exact s_zret (pc := 89) dX10_hide_89 rfl hF (fun hF => (okr hF fun q => q))
    replace hF := (okB_if hF).1 hc
    refine v_aload_n (pc := 79) (i := 0) dX10_hide_79 rfl rfl ?_
    refine s_getR (pc := 80) dX10_hide_80 flX10_28 rfl hF (fun x13 hF => ?_)
    refine v_aload_n (pc := 83) (i := 3) dX10_hide_83 rfl rfl ?_
    refine ch_V (pc := 84) gU (as := [sr x1]) (st := []) (ci := 5) (N := mX6_tellWords) (k := 0) (n := 0) (k1 := 0) (n1 := 0) dX10_hide_84 lkX10_99 caX6_tellWords cvX6_tellWords rfl (by decide) rfl (fun b Q1 hq => tX6_tellWords b x1 h9 Q1 hq) ⟨by decide, by decide⟩ (Nat.le_of_ble_eq_true rfl) rfl hF (fun x14 h15 hF => ?_)
    show gV G mX10_hide 53 Q 87 [some (sr (some a0)), some (si a1), some (si a2), some (sr x1), some (si x4), some (si x5)] [] (0) (0) h15
    refine v_iload (pc := 87) (i := 4) dX10_hide_87 rfl ?_
    exact s_zret (pc := 89) dX10_hide_89 rfl hF (fun hF => (okr hF fun q => q))
  replace hF := (okB_if hF).2 hc
  refine v_aload_n (pc := 47) (i := 0) dX10_hide_47 rfl rfl ?_
  refine s_getR (pc := 48) dX10_hide_48 flX10_28 rfl hF (fun x16 hF => ?_)
  refine v_aload_n (pc := 51) (i := 3) dX10_hide_51 rfl rfl ?_
  refine ch_V (pc := 52) gU (as := [sr x1]) (st := []) (ci := 5) (N := mX6_tellGone) (k := 0) (n := 0) (k1 := 0) (n1 := 0) dX10_hide_52 lkX10_124 caX6_tellGone cvX6_tellGone rfl (by decide) rfl (fun b Q1 hq => tX6_tellGone b x1 h9 Q1 hq) ⟨by decide, by decide⟩ (Nat.le_of_ble_eq_true rfl) rfl hF (fun x17 h18 hF => ?_)
  show gV G mX10_hide 53 Q 55 [some (sr (some a0)), some (si a1), some (si a2), some (sr x1), some (si x4), some (si x5)] [] (0) (0) h18
  refine v_aload_n (pc := 55) (i := 0) dX10_hide_55 rfl rfl ?_
  refine s_getR (pc := 56) dX10_hide_56 flX10_35 rfl hF (fun x19 hF => ?_)
  refine v_aload_n (pc := 59) (i := 3) dX10_hide_59 rfl rfl ?_
  refine v_aload_n (pc := 60) (i := 3) dX10_hide_60 rfl rfl ?_
  refine cp_V (pc := 61) gR (as := []) (st := [sr x1, sr x19]) (ci := 1) (N := mX2_refuge) (k := 0) (n := 0) (k1 := 0) (n1 := 0) dX10_hide_61 lkX10_113 caX2_refuge cvX2_refuge rfl (by decide) rfl (fun b Q1 hq => tX2_refuge b h18 Q1 hq) ⟨by decide, by decide⟩ (Nat.le_of_ble_eq_true rfl) rfl hF (fun x20 hF => ?_)
  show gV G mX10_hide 53 Q 64 [some (sr (some a0)), some (si a1), some (si a2), some (sr x1), some (si x4), some (si x5)] [sr x20, sr x1, sr x19] (0) (0) h18
  refine ch_V (pc := 64) gU (as := [sr x1, sr x20]) (st := []) (ci := 4) (N := mX5_lose) (k := 0) (n := 0) (k1 := 0) (n1 := 0) dX10_hide_64 lkX10_127 caX5_lose cvX5_lose rfl (by decide) rfl (fun b Q1 hq => tX5_lose b x1 x20 h18 Q1 hq) ⟨by decide, by decide⟩ (Nat.le_of_ble_eq_true rfl) rfl hF (fun x21 h22 hF => ?_)
  show gV G mX10_hide 53 Q 67 [some (sr (some a0)), some (si a1), some (si a2), some (sr x1), some (si x4), some (si x5)] [] (0) (0) h22
  refine v_goto (pc := 67) 87 dX10_hide_67 rfl ?_
  refine v_iload (pc := 87) (i := 4) dX10_hide_87 rfl ?_
  exact s_zret (pc := 89) dX10_hide_89 rfl hF (fun hF => (okr hF fun q => q))
/-! BrailleDesk.rename -/
theorem tX10_rename {G : gG} (a0 : Nat) (a1 : Int32) (h : hp) (Q : hQ) (hF : okB (fX10_rename a0 a1 h) (pX gI Q)) : gS G mX10_rename 8 3 18 [sr (some a0), si a1] h Q := by
  delta fX10_rename at hF
  refine gS_at [some (sr (some a0)), some (si a1), none, none] pl_X10 rfl (Nat.le_of_ble_eq_true rfl) rfl ?_
  refine v_aload_n (pc := 0) (i := 0) dX10_rename_0 rfl rfl ?_
  refine v_iload_n (pc := 1) (i := 1) dX10_rename_1 rfl rfl ?_
  refine ct_V (pc := 2) gR (as := [si a1]) (st := []) (ci := 9) (N := mX10_existing) (k := 2) (n := 12) (k1 := 1) (n1 := 6) dX10_rename_2 lkX10_71 caX10_existing cvX10_existing rfl (by decide) rfl (fun b Q1 hq => tX10_existing b a1 h Q1 hq) ⟨by decide, by decide⟩ (Nat.le_of_ble_eq_true rfl) rfl hF (fun E hp => hp) (fun x1 hF => ?_)
  show gV G mX10_rename 8 Q 5 [some (sr (some a0)), some (si a1), none, none] [sr x1] (2) (12) h
  refine v_astore_n (pc := 5) (i := 2) [some (sr (some a0)), some (si a1), some (sr x1), none] dX10_rename_5 rfl (by decide) rfl rfl ?_
  refine v_aload_n (pc := 6) (i := 2) dX10_rename_6 rfl rfl ?_
  refine ct_S (pc := 7) gU (as := [sr x1]) (st := []) (N := mX10_refuseScreen) (k := 1) (n := 6) (k1 := 1) (n1 := 6) dX10_rename_7 lkX10_107 caX10_refuseScreen csX10_refuseScreen rfl (fun Q1 hq => tX10_refuseScreen x1 h Q1 hq) ⟨by decide, by decide⟩ (Nat.le_of_ble_eq_true rfl) rfl hF (fun E hp => hp) (fun x2 hF => ?_)
  show gV G mX10_rename 8 Q 10 [some (sr (some a0)), some (si a1), some (sr x1), none] [] (1) (6) h
  refine v_aload_n (pc := 10) (i := 0) dX10_rename_10 rfl rfl ?_
  refine ct_V (pc := 11) gU (as := []) (st := []) (ci := 9) (N := mX10_refuseManyAlerts) (k := 0) (n := 0) (k1 := 1) (n1 := 6) dX10_rename_11 lkX10_89 caX10_refuseManyAlerts cvX10_refuseManyAlerts rfl (by decide) rfl (fun b Q1 hq => tX10_refuseManyAlerts b h Q1 hq) ⟨by decide, by decide⟩ (Nat.le_of_ble_eq_true rfl) rfl hF (fun E hp => hp) (fun x3 hF => ?_)
  show gV G mX10_rename 8 Q 14 [some (sr (some a0)), some (si a1), some (sr x1), none] [] (0) (0) h
  refine v_aload_n (pc := 14) (i := 2) dX10_rename_14 rfl rfl ?_
  refine s_getR (pc := 15) dX10_rename_15 flX10_138 rfl hF (fun x4 hF => ?_)
  refine v_aload_n (pc := 18) (i := 0) dX10_rename_18 rfl rfl ?_
  refine s_getR (pc := 19) dX10_rename_19 flX10_44 rfl hF (fun x5 hF => ?_)
  refine cp_V (pc := 22) gI (as := [sr x5]) (st := []) (ci := 0) (N := mX1_isSame) (k := 0) (n := 0) (k1 := 0) (n1 := 0) dX10_rename_22 lkX10_141 caX1_isSame cvX1_isSame rfl (by decide) rfl (fun b Q1 hq => tX1_isSame b x5 h Q1 hq) ⟨by decide, by decide⟩ (Nat.le_of_ble_eq_true rfl) rfl hF (fun x6 hF => ?_)
  show gV G mX10_rename 8 Q 25 [some (sr (some a0)), some (si a1), some (sr x1), none] [si x6] (0) (0) h
  refine mg (X := fun q7 => gV G mX10_rename 8 Q 33 [some (sr (some a0)), none, some (sr x1), none] [si q7] (0) (0) h) hF (fun _ hj8 hF => ?_) (fun q7 hF => ?_)
  · refine v_if_ne (pc := 25) 32 dX10_rename_25 rfl (fun hc => ?_) (fun hc => ?_)
    · replace hF := (okB_if hF).2 hc
      refine v_iconst (pc := 32) (v := (0 : Int32)) dX10_rename_32 rfl ?_
      exact v_lle [some (sr (some a0)), none, some (sr x1), none] ⟨rfl, rfl, trivial⟩ (hj8 (0 : Int32) (okB_some hF))
    replace hF := (okB_if hF).1 hc
    refine v_iconst (pc := 28) (v := (1 : Int32)) dX10_rename_28 rfl ?_
    refine v_goto (pc := 29) 33 dX10_rename_29 rfl ?_
    exact v_lle [some (sr (some a0)), none, some (sr x1), none] ⟨rfl, rfl, trivial⟩ (hj8 (1 : Int32) (okB_some hF))
  refine v_istore_n (pc := 33) (i := 3) [some (sr (some a0)), none, some (sr x1), some (si q7)] dX10_rename_33 rfl (by decide) rfl rfl ?_
  refine v_aload_n (pc := 34) (i := 2) dX10_rename_34 rfl rfl ?_
  refine s_getR (pc := 35) dX10_rename_35 flX10_138 rfl hF (fun x9 hF => ?_)
  refine v_aload_n (pc := 38) (i := 0) dX10_rename_38 rfl rfl ?_
  refine s_getR (pc := 39) dX10_rename_39 flX10_44 rfl hF (fun x10 hF => ?_)
  refine ch_V (pc := 42) gU (as := [sr x10]) (st := []) (ci := 0) (N := mX1_copy) (k := 0) (n := 0) (k1 := 0) (n1 := 0) dX10_rename_42 lkX10_145 caX1_copy cvX1_copy rfl (by decide) rfl (fun b Q1 hq => tX1_copy b x10 h Q1 hq) ⟨by decide, by decide⟩ (Nat.le_of_ble_eq_true rfl) rfl hF (fun x11 h12 hF => ?_)
  show gV G mX10_rename 8 Q 45 [some (sr (some a0)), none, some (sr x1), some (si q7)] [] (0) (0) h12
  refine v_aload_n (pc := 45) (i := 0) dX10_rename_45 rfl rfl ?_
  refine s_getR (pc := 46) dX10_rename_46 flX10_44 rfl hF (fun x13 hF => ?_)
  refine ch_V (pc := 49) gU (as := []) (st := []) (ci := 0) (N := mX1_clear) (k := 0) (n := 0) (k1 := 0) (n1 := 0) dX10_rename_49 lkX10_96 caX1_clear cvX1_clear rfl (by decide) rfl (fun b Q1 hq => tX1_clear b h12 Q1 hq) ⟨by decide, by decide⟩ (Nat.le_of_ble_eq_true rfl) rfl hF (fun x14 h15 hF => ?_)
  show gV G mX10_rename 8 Q 52 [some (sr (some a0)), none, some (sr x1), some (si q7)] [] (0) (0) h15
  refine v_iload_n (pc := 52) (i := 3) dX10_rename_52 rfl rfl ?_
  refine mg (X := fun q16 => gV G mX10_rename 8 Q 64 [some (sr (some a0)), none, some (sr x1), none] [] (0) (0) q16) hF (fun _ hj17 hF => ?_) (fun q16 hF => ?_)
  · refine v_if_eq (pc := 53) 64 dX10_rename_53 rfl (fun hc => ?_) (fun hc => ?_)
    · replace hF := (okB_if hF).1 hc
      exact v_lle [some (sr (some a0)), none, some (sr x1), none] ⟨rfl, rfl, trivial⟩ (hj17 h15 (okB_some hF))
    replace hF := (okB_if hF).2 hc
    refine v_aload_n (pc := 56) (i := 0) dX10_rename_56 rfl rfl ?_
    refine s_getR (pc := 57) dX10_rename_57 flX10_28 rfl hF (fun x18 hF => ?_)
    refine v_aload_n (pc := 60) (i := 2) dX10_rename_60 rfl rfl ?_
    refine ch_V (pc := 61) gU (as := [sr x1]) (st := []) (ci := 5) (N := mX6_tellWords) (k := 0) (n := 0) (k1 := 0) (n1 := 0) dX10_rename_61 lkX10_99 caX6_tellWords cvX6_tellWords rfl (by decide) rfl (fun b Q1 hq => tX6_tellWords b x1 h15 Q1 hq) ⟨by decide, by decide⟩ (Nat.le_of_ble_eq_true rfl) rfl hF (fun x19 h20 hF => ?_)
    show gV G mX10_rename 8 Q 64 [some (sr (some a0)), none, some (sr x1), some (si q7)] [] (0) (0) h20
    exact v_lle [some (sr (some a0)), none, some (sr x1), none] ⟨rfl, rfl, trivial⟩ (hj17 h20 (okB_some hF))
  refine v_aload_n (pc := 64) (i := 0) dX10_rename_64 rfl rfl ?_
  refine s_getR (pc := 65) dX10_rename_65 flX10_35 rfl hF (fun x21 hF => ?_)
  refine ch_V (pc := 68) gU (as := []) (st := []) (ci := 4) (N := mX5_refreshPins) (k := 0) (n := 0) (k1 := 0) (n1 := 0) dX10_rename_68 lkX10_149 caX5_refreshPins cvX5_refreshPins rfl (by decide) rfl (fun b Q1 hq => tX5_refreshPins b q16 Q1 hq) ⟨by decide, by decide⟩ (Nat.le_of_ble_eq_true rfl) rfl hF (fun x22 h23 hF => ?_)
  show gV G mX10_rename 8 Q 71 [some (sr (some a0)), none, some (sr x1), none] [] (0) (0) h23
  refine v_aload_n (pc := 71) (i := 2) dX10_rename_71 rfl rfl ?_
  refine s_getR (pc := 72) dX10_rename_72 flX10_138 rfl hF (fun x24 hF => ?_)
  refine cp_V (pc := 75) gI (as := []) (st := []) (ci := 0) (N := mX1_size) (k := 0) (n := 0) (k1 := 0) (n1 := 0) dX10_rename_75 lkX10_59 caX1_size cvX1_size rfl (by decide) rfl (fun b Q1 hq => tX1_size b h23 Q1 hq) ⟨by decide, by decide⟩ (Nat.le_of_ble_eq_true rfl) rfl hF (fun x25 hF => ?_)
  show gV G mX10_rename 8 Q 78 [some (sr (some a0)), none, some (sr x1), none] [si x25] (0) (0) h23
  exact v_iret (pc := 78) dX10_rename_78 rfl rfl (okr hF fun q => q)
