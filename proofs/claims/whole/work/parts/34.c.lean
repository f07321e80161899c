/-! ===== methods: their functions and rows ===== -/
theorem dX10_hide_0 : decode cX10_hide 0 = .ok (.aload_n 0, 1) := by decide +kernel
theorem dX10_hide_1 : decode cX10_hide 1 = .ok (.iload_n 1, 1) := by decide +kernel
theorem dX10_hide_2 : decode cX10_hide 2 = .ok (.invokevirtual 71, 3) := by decide +kernel
theorem dX10_hide_5 : decode cX10_hide 5 = .ok (.astore_n 3, 1) := by decide +kernel
theorem dX10_hide_6 : decode cX10_hide 6 = .ok (.aload_n 3, 1) := by decide +kernel
theorem dX10_hide_7 : decode cX10_hide 7 = .ok (.invokestatic 107, 3) := by decide +kernel
theorem dX10_hide_10 : decode cX10_hide 10 = .ok (.aload_n 0, 1) := by decide +kernel
theorem dX10_hide_11 : decode cX10_hide 11 = .ok (.invokevirtual 89, 3) := by decide +kernel
theorem dX10_hide_14 : decode cX10_hide 14 = .ok (.aload_n 3, 1) := by decide +kernel
theorem dX10_hide_15 : decode cX10_hide 15 = .ok (.getfield 131, 3) := by decide +kernel
theorem dX10_hide_18 : decode cX10_hide 18 = .ok (.istore 4, 2) := by decide +kernel
theorem dX10_hide_20 : decode cX10_hide 20 = .ok (.aload_n 3, 1) := by decide +kernel
theorem dX10_hide_21 : decode cX10_hide 21 = .ok (.invokevirtual 110, 3) := by decide +kernel
theorem dX10_hide_24 : decode cX10_hide 24 = .ok (.istore 5, 2) := by decide +kernel
theorem dX10_hide_26 : decode cX10_hide 26 = .ok (.aload_n 3, 1) := by decide +kernel
theorem dX10_hide_27 : decode cX10_hide 27 = .ok (.iload_n 2, 1) := by decide +kernel
theorem dX10_hide_28 : decode cX10_hide 28 = .ok (.putfield 131, 3) := by decide +kernel
theorem dX10_hide_31 : decode cX10_hide 31 = .ok (.aload_n 0, 1) := by decide +kernel
theorem dX10_hide_32 : decode cX10_hide 32 = .ok (.getfield 10, 3) := by decide +kernel
theorem dX10_hide_35 : decode cX10_hide 35 = .ok (.invokevirtual 135, 3) := by decide +kernel
theorem dX10_hide_38 : decode cX10_hide 38 = .ok (.iload 5, 2) := by decide +kernel
theorem dX10_hide_40 : decode cX10_hide 40 = .ok (.ifCond .eq 30, 3) := by decide +kernel
theorem dX10_hide_43 : decode cX10_hide 43 = .ok (.iload_n 2, 1) := by decide +kernel
theorem dX10_hide_44 : decode cX10_hide 44 = .ok (.ifCond .eq 26, 3) := by decide +kernel
theorem dX10_hide_47 : decode cX10_hide 47 = .ok (.aload_n 0, 1) := by decide +kernel
theorem dX10_hide_48 : decode cX10_hide 48 = .ok (.getfield 28, 3) := by decide +kernel
theorem dX10_hide_51 : decode cX10_hide 51 = .ok (.aload_n 3, 1) := by decide +kernel
theorem dX10_hide_52 : decode cX10_hide 52 = .ok (.invokevirtual 124, 3) := by decide +kernel
theorem dX10_hide_55 : decode cX10_hide 55 = .ok (.aload_n 0, 1) := by decide +kernel
theorem dX10_hide_56 : decode cX10_hide 56 = .ok (.getfield 35, 3) := by decide +kernel
theorem dX10_hide_59 : decode cX10_hide 59 = .ok (.aload_n 3, 1) := by decide +kernel
theorem dX10_hide_60 : decode cX10_hide 60 = .ok (.aload_n 3, 1) := by decide +kernel
theorem dX10_hide_61 : decode cX10_hide 61 = .ok (.invokevirtual 113, 3) := by decide +kernel
theorem dX10_hide_64 : decode cX10_hide 64 = .ok (.invokevirtual 127, 3) := by decide +kernel
theorem dX10_hide_67 : decode cX10_hide 67 = .ok (.goto 20, 3) := by decide +kernel
theorem dX10_hide_70 : decode cX10_hide 70 = .ok (.iload 4, 2) := by decide +kernel
theorem dX10_hide_72 : decode cX10_hide 72 = .ok (.ifCond .eq 15, 3) := by decide +kernel
theorem dX10_hide_75 : decode cX10_hide 75 = .ok (.iload_n 2, 1) := by decide +kernel
theorem dX10_hide_76 : decode cX10_hide 76 = .ok (.ifCond .ne 11, 3) := by decide +kernel
theorem dX10_hide_79 : decode cX10_hide 79 = .ok (.aload_n 0, 1) := by decide +kernel
theorem dX10_hide_80 : decode cX10_hide 80 = .ok (.getfield 28, 3) := by decide +kernel
theorem dX10_hide_83 : decode cX10_hide 83 = .ok (.aload_n 3, 1) := by decide +kernel
theorem dX10_hide_84 : decode cX10_hide 84 = .ok (.invokevirtual 99, 3) := by decide +kernel
theorem dX10_hide_87 : decode cX10_hide 87 = .ok (.iload 4, 2) := by decide +kernel
theorem dX10_hide_89 : decode cX10_hide 89 = .ok (.ireturn, 1) := by decide +kernel
theorem dX10_rename_0 : decode cX10_rename 0 = .ok (.aload_n 0, 1) := by decide +kernel
theorem dX10_rename_1 : decode cX10_rename 1 = .ok (.iload_n 1, 1) := by decide +kernel
theorem dX10_rename_2 : decode cX10_rename 2 = .ok (.invokevirtual 71, 3) := by decide +kernel
theorem dX10_rename_5 : decode cX10_rename 5 = .ok (.astore_n 2, 1) := by decide +kernel
theorem dX10_rename_6 : decode cX10_rename 6 = .ok (.aload_n 2, 1) := by decide +kernel
theorem dX10_rename_7 : decode cX10_rename 7 = .ok (.invokestatic 107, 3) := by decide +kernel
theorem dX10_rename_10 : decode cX10_rename 10 = .ok (.aload_n 0, 1) := by decide +kernel
theorem dX10_rename_11 : decode cX10_rename 11 = .ok (.invokevirtual 89, 3) := by decide +kernel
theorem dX10_rename_14 : decode cX10_rename 14 = .ok (.aload_n 2, 1) := by decide +kernel
theorem dX10_rename_15 : decode cX10_rename 15 = .ok (.getfield 138, 3) := by decide +kernel
theorem dX10_rename_18 : decode cX10_rename 18 = .ok (.aload_n 0, 1) := by decide +kernel
theorem dX10_rename_19 : decode cX10_rename 19 = .ok (.getfield 44, 3) := by decide +kernel
theorem dX10_rename_22 : decode cX10_rename 22 = .ok (.invokevirtual 141, 3) := by decide +kernel
theorem dX10_rename_25 : decode cX10_rename 25 = .ok (.ifCond .ne 7, 3) := by decide +kernel
theorem dX10_rename_28 : decode cX10_rename 28 = .ok (.iconst 1, 1) := by decide +kernel
theorem dX10_rename_29 : decode cX10_rename 29 = .ok (.goto 4, 3) := by decide +kernel
theorem dX10_rename_32 : decode cX10_rename 32 = .ok (.iconst 0, 1) := by decide +kernel
theorem dX10_rename_33 : decode cX10_rename 33 = .ok (.istore_n 3, 1) := by decide +kernel
theorem dX10_rename_34 : decode cX10_rename 34 = .ok (.aload_n 2, 1) := by decide +kernel
theorem dX10_rename_35 : decode cX10_rename 35 = .ok (.getfield 138, 3) := by decide +kernel
theorem dX10_rename_38 : decode cX10_rename 38 = .ok (.aload_n 0, 1) := by decide +kernel
theorem dX10_rename_39 : decode cX10_rename 39 = .ok (.getfield 44, 3) := by decide +kernel
theorem dX10_rename_42 : decode cX10_rename 42 = .ok (.invokevirtual 145, 3) := by decide +kernel
theorem dX10_rename_45 : decode cX10_rename 45 = .ok (.aload_n 0, 1) := by decide +kernel
theorem dX10_rename_46 : decode cX10_rename 46 = .ok (.getfield 44, 3) := by decide +kernel
theorem dX10_rename_49 : decode cX10_rename 49 = .ok (.invokevirtual 96, 3) := by decide +kernel
theorem dX10_rename_52 : decode cX10_rename 52 = .ok (.iload_n 3, 1) := by decide +kernel
theorem dX10_rename_53 : decode cX10_rename 53 = .ok (.ifCond .eq 11, 3) := by decide +kernel
theorem dX10_rename_56 : decode cX10_rename 56 = .ok (.aload_n 0, 1) := by decide +kernel
theorem dX10_rename_57 : decode cX10_rename 57 = .ok (.getfield 28, 3) := by decide +kernel
theorem dX10_rename_60 : decode cX10_rename 60 = .ok (.aload_n 2, 1) := by decide +kernel
theorem dX10_rename_61 : decode cX10_rename 61 = .ok (.invokevirtual 99, 3) := by decide +kernel
theorem dX10_rename_64 : decode cX10_rename 64 = .ok (.aload_n 0, 1) := by decide +kernel
theorem dX10_rename_65 : decode cX10_rename 65 = .ok (.getfield 35, 3) := by decide +kernel
theorem dX10_rename_68 : decode cX10_rename 68 = .ok (.invokevirtual 149, 3) := by decide +kernel
theorem dX10_rename_71 : decode cX10_rename 71 = .ok (.aload_n 2, 1) := by decide +kernel
theorem dX10_rename_72 : decode cX10_rename 72 = .ok (.getfield 138, 3) := by decide +kernel
theorem dX10_rename_75 : decode cX10_rename 75 = .ok (.invokevirtual 59, 3) := by decide +kernel
theorem dX10_rename_78 : decode cX10_rename 78 = .ok (.ireturn, 1) := by decide +kernel
theorem dX10_set_0 : decode cX10_set 0 = .ok (.aload_n 0, 1) := by decide +kernel
theorem dX10_set_1 : decode cX10_set 1 = .ok (.iload_n 1, 1) := by decide +kernel
theorem dX10_set_2 : decode cX10_set 2 = .ok (.invokevirtual 71, 3) := by decide +kernel
theorem dX10_set_5 : decode cX10_set 5 = .ok (.astore_n 3, 1) := by decide +kernel
theorem dX10_set_6 : decode cX10_set 6 = .ok (.aload_n 3, 1) := by decide +kernel
theorem dX10_set_7 : decode cX10_set 7 = .ok (.getfield 152, 3) := by decide +kernel
theorem dX10_set_10 : decode cX10_set 10 = .ok (.iconst 3, 1) := by decide +kernel
theorem dX10_set_11 : decode cX10_set 11 = .ok (.if_icmp .eq 13, 3) := by decide +kernel
theorem dX10_set_14 : decode cX10_set 14 = .ok (.new 63, 3) := by decide +kernel
theorem dX10_set_17 : decode cX10_set 17 = .ok (.dup, 1) := by decide +kernel
theorem dX10_set_18 : decode cX10_set 18 = .ok (.ldc 155, 2) := by decide +kernel
theorem dX10_set_20 : decode cX10_set 20 = .ok (.invokespecial 67, 3) := by decide +kernel
theorem dX10_set_23 : decode cX10_set 23 = .ok (.athrow, 1) := by decide +kernel
theorem dX10_set_24 : decode cX10_set 24 = .ok (.aload_n 0, 1) := by decide +kernel
theorem dX10_set_25 : decode cX10_set 25 = .ok (.invokevirtual 89, 3) := by decide +kernel
theorem dX10_set_28 : decode cX10_set 28 = .ok (.aload_n 3, 1) := by decide +kernel
theorem dX10_set_29 : decode cX10_set 29 = .ok (.getfield 157, 3) := by decide +kernel
theorem dX10_set_32 : decode cX10_set 32 = .ok (.istore 4, 2) := by decide +kernel
theorem dX10_set_34 : decode cX10_set 34 = .ok (.aload_n 3, 1) := by decide +kernel
theorem dX10_set_35 : decode cX10_set 35 = .ok (.iload_n 2, 1) := by decide +kernel
theorem dX10_set_36 : decode cX10_set 36 = .ok (.putfield 157, 3) := by decide +kernel
theorem dX10_set_39 : decode cX10_set 39 = .ok (.iload 4, 2) := by decide +kernel
theorem dX10_set_41 : decode cX10_set 41 = .ok (.iload_n 2, 1) := by decide +kernel
theorem dX10_set_42 : decode cX10_set 42 = .ok (.if_icmp .eq 11, 3) := by decide +kernel
theorem dX10_set_45 : decode cX10_set 45 = .ok (.aload_n 0, 1) := by decide +kernel
theorem dX10_set_46 : decode cX10_set 46 = .ok (.getfield 28, 3) := by decide +kernel
theorem dX10_set_49 : decode cX10_set 49 = .ok (.aload_n 3, 1) := by decide +kernel
theorem dX10_set_50 : decode cX10_set 50 = .ok (.invokevirtual 99, 3) := by decide +kernel
theorem dX10_set_53 : decode cX10_set 53 = .ok (.aload_n 0, 1) := by decide +kernel
theorem dX10_set_54 : decode cX10_set 54 = .ok (.getfield 35, 3) := by decide +kernel
theorem dX10_set_57 : decode cX10_set 57 = .ok (.invokevirtual 149, 3) := by decide +kernel
theorem dX10_set_60 : decode cX10_set 60 = .ok (.iload 4, 2) := by decide +kernel
theorem dX10_set_62 : decode cX10_set 62 = .ok (.ireturn, 1) := by decide +kernel
theorem dX10_setRule_0 : decode cX10_setRule 0 = .ok (.aload_n 0, 1) := by decide +kernel
theorem dX10_setRule_1 : decode cX10_setRule 1 = .ok (.iload_n 1, 1) := by decide +kernel
theorem dX10_setRule_2 : decode cX10_setRule 2 = .ok (.invokevirtual 71, 3) := by decide +kernel
theorem dX10_setRule_5 : decode cX10_setRule 5 = .ok (.astore_n 3, 1) := by decide +kernel
theorem dX10_setRule_6 : decode cX10_setRule 6 = .ok (.iload_n 2, 1) := by decide +kernel
theorem dX10_setRule_7 : decode cX10_setRule 7 = .ok (.iconst (-1), 1) := by decide +kernel
theorem dX10_setRule_8 : decode cX10_setRule 8 = .ok (.if_icmp .eq 22, 3) := by decide +kernel
theorem dX10_setRule_11 : decode cX10_setRule 11 = .ok (.iload_n 2, 1) := by decide +kernel
theorem dX10_setRule_12 : decode cX10_setRule 12 = .ok (.ifCond .lt 8, 3) := by decide +kernel
theorem dX10_setRule_15 : decode cX10_setRule 15 = .ok (.iload_n 2, 1) := by decide +kernel
theorem dX10_setRule_16 : decode cX10_setRule 16 = .ok (.iconst 2, 1) := by decide +kernel
theorem dX10_setRule_17 : decode cX10_setRule 17 = .ok (.if_icmp .le 13, 3) := by decide +kernel
theorem dX10_setRule_20 : decode cX10_setRule 20 = .ok (.new 52, 3) := by decide +kernel
theorem dX10_setRule_23 : decode cX10_setRule 23 = .ok (.dup, 1) := by decide +kernel
theorem dX10_setRule_24 : decode cX10_setRule 24 = .ok (.ldc 160, 2) := by decide +kernel
theorem dX10_setRule_26 : decode cX10_setRule 26 = .ok (.invokespecial 56, 3) := by decide +kernel
theorem dX10_setRule_29 : decode cX10_setRule 29 = .ok (.athrow, 1) := by decide +kernel
theorem dX10_setRule_30 : decode cX10_setRule 30 = .ok (.aload_n 3, 1) := by decide +kernel
theorem dX10_setRule_31 : decode cX10_setRule 31 = .ok (.getfield 162, 3) := by decide +kernel
theorem dX10_setRule_34 : decode cX10_setRule 34 = .ok (.istore 4, 2) := by decide +kernel
theorem dX10_setRule_36 : decode cX10_setRule 36 = .ok (.aload_n 3, 1) := by decide +kernel
theorem dX10_setRule_37 : decode cX10_setRule 37 = .ok (.iload_n 2, 1) := by decide +kernel
theorem dX10_setRule_38 : decode cX10_setRule 38 = .ok (.putfield 162, 3) := by decide +kernel
theorem dX10_setRule_41 : decode cX10_setRule 41 = .ok (.aload_n 0, 1) := by decide +kernel
theorem dX10_setRule_42 : decode cX10_setRule 42 = .ok (.getfield 35, 3) := by decide +kernel
theorem dX10_setRule_45 : decode cX10_setRule 45 = .ok (.invokevirtual 149, 3) := by decide +kernel
theorem dX10_setRule_48 : decode cX10_setRule 48 = .ok (.iload 4, 2) := by decide +kernel
theorem dX10_setRule_50 : decode cX10_setRule 50 = .ok (.ireturn, 1) := by decide +kernel
theorem dX10_setManner_0 : decode cX10_setManner 0 = .ok (.aload_n 0, 1) := by decide +kernel
theorem dX10_setManner_1 : decode cX10_setManner 1 = .ok (.iload_n 1, 1) := by decide +kernel
theorem dX10_setManner_2 : decode cX10_setManner 2 = .ok (.invokevirtual 71, 3) := by decide +kernel
theorem dX10_setManner_5 : decode cX10_setManner 5 = .ok (.astore_n 3, 1) := by decide +kernel
theorem dX10_setManner_6 : decode cX10_setManner 6 = .ok (.iload_n 2, 1) := by decide +kernel
theorem dX10_setManner_7 : decode cX10_setManner 7 = .ok (.ifCond .lt 8, 3) := by decide +kernel
theorem dX10_setManner_10 : decode cX10_setManner 10 = .ok (.iload_n 2, 1) := by decide +kernel
theorem dX10_setManner_11 : decode cX10_setManner 11 = .ok (.iconst 2, 1) := by decide +kernel
theorem dX10_setManner_12 : decode cX10_setManner 12 = .ok (.if_icmp .le 13, 3) := by decide +kernel
theorem dX10_setManner_15 : decode cX10_setManner 15 = .ok (.new 52, 3) := by decide +kernel
theorem dX10_setManner_18 : decode cX10_setManner 18 = .ok (.dup, 1) := by decide +kernel
theorem dX10_setManner_19 : decode cX10_setManner 19 = .ok (.ldc 165, 2) := by decide +kernel
theorem dX10_setManner_21 : decode cX10_setManner 21 = .ok (.invokespecial 56, 3) := by decide +kernel
theorem dX10_setManner_24 : decode cX10_setManner 24 = .ok (.athrow, 1) := by decide +kernel
theorem dX10_setManner_25 : decode cX10_setManner 25 = .ok (.aload_n 3, 1) := by decide +kernel
theorem dX10_setManner_26 : decode cX10_setManner 26 = .ok (.getfield 152, 3) := by decide +kernel
theorem dX10_setManner_29 : decode cX10_setManner 29 = .ok (.bipush 7, 2) := by decide +kernel
theorem dX10_setManner_31 : decode cX10_setManner 31 = .ok (.if_icmp .eq 13, 3) := by decide +kernel
theorem dX10_setManner_34 : decode cX10_setManner 34 = .ok (.new 63, 3) := by decide +kernel
theorem dX10_setManner_37 : decode cX10_setManner 37 = .ok (.dup, 1) := by decide +kernel
theorem dX10_setManner_38 : decode cX10_setManner 38 = .ok (.ldc 167, 2) := by decide +kernel
theorem dX10_setManner_40 : decode cX10_setManner 40 = .ok (.invokespecial 67, 3) := by decide +kernel
theorem dX10_setManner_43 : decode cX10_setManner 43 = .ok (.athrow, 1) := by decide +kernel
theorem dX10_setManner_44 : decode cX10_setManner 44 = .ok (.aload_n 3, 1) := by decide +kernel
theorem dX10_setManner_45 : decode cX10_setManner 45 = .ok (.getfield 169, 3) := by decide +kernel
theorem dX10_setManner_48 : decode cX10_setManner 48 = .ok (.istore 4, 2) := by decide +kernel
theorem dX10_setManner_50 : decode cX10_setManner 50 = .ok (.aload_n 3, 1) := by decide +kernel
theorem dX10_setManner_51 : decode cX10_setManner 51 = .ok (.iload_n 2, 1) := by decide +kernel
theorem dX10_setManner_52 : decode cX10_setManner 52 = .ok (.putfield 169, 3) := by decide +kernel
theorem dX10_setManner_55 : decode cX10_setManner 55 = .ok (.aload_n 0, 1) := by decide +kernel
theorem dX10_setManner_56 : decode cX10_setManner 56 = .ok (.getfield 28, 3) := by decide +kernel
theorem dX10_setManner_59 : decode cX10_setManner 59 = .ok (.aload_n 3, 1) := by decide +kernel
theorem dX10_setManner_60 : decode cX10_setManner 60 = .ok (.invokevirtual 172, 3) := by decide +kernel
theorem dX10_setManner_63 : decode cX10_setManner 63 = .ok (.iload 4, 2) := by decide +kernel
theorem dX10_setManner_65 : decode cX10_setManner 65 = .ok (.ireturn, 1) := by decide +kernel
theorem dX10_elements_0 : decode cX10_elements 0 = .ok (.aload_n 0, 1) := by decide +kernel
theorem dX10_elements_1 : decode cX10_elements 1 = .ok (.getfield 10, 3) := by decide +kernel
theorem dX10_elements_4 : decode cX10_elements 4 = .ok (.getfield 175, 3) := by decide +kernel
theorem dX10_elements_7 : decode cX10_elements 7 = .ok (.ireturn, 1) := by decide +kernel
theorem dX10_kind_0 : decode cX10_kind 0 = .ok (.aload_n 0, 1) := by decide +kernel
theorem dX10_kind_1 : decode cX10_kind 1 = .ok (.iload_n 1, 1) := by decide +kernel
theorem dX10_kind_2 : decode cX10_kind 2 = .ok (.invokevirtual 71, 3) := by decide +kernel
theorem dX10_kind_5 : decode cX10_kind 5 = .ok (.getfield 152, 3) := by decide +kernel
theorem dX10_kind_8 : decode cX10_kind 8 = .ok (.ireturn, 1) := by decide +kernel
theorem dX10_parent_0 : decode cX10_parent 0 = .ok (.aload_n 0, 1) := by decide +kernel
theorem dX10_parent_1 : decode cX10_parent 1 = .ok (.iload_n 1, 1) := by decide +kernel
theorem dX10_parent_2 : decode cX10_parent 2 = .ok (.invokevirtual 71, 3) := by decide +kernel
theorem dX10_parent_5 : decode cX10_parent 5 = .ok (.getfield 178, 3) := by decide +kernel
theorem dX10_parent_8 : decode cX10_parent 8 = .ok (.astore_n 2, 1) := by decide +kernel
theorem dX10_parent_9 : decode cX10_parent 9 = .ok (.aload_n 2, 1) := by decide +kernel
theorem dX10_parent_10 : decode cX10_parent 10 = .ok (.ifnonnull 7, 3) := by decide +kernel
theorem dX10_parent_13 : decode cX10_parent 13 = .ok (.iconst (-1), 1) := by decide +kernel
theorem dX10_parent_14 : decode cX10_parent 14 = .ok (.goto 7, 3) := by decide +kernel
theorem dX10_parent_17 : decode cX10_parent 17 = .ok (.aload_n 2, 1) := by decide +kernel
theorem dX10_parent_18 : decode cX10_parent 18 = .ok (.getfield 103, 3) := by decide +kernel
theorem dX10_parent_21 : decode cX10_parent 21 = .ok (.ireturn, 1) := by decide +kernel
theorem dX10_children_0 : decode cX10_children 0 = .ok (.aload_n 0, 1) := by decide +kernel
theorem dX10_children_1 : decode cX10_children 1 = .ok (.iload_n 1, 1) := by decide +kernel
theorem dX10_children_2 : decode cX10_children 2 = .ok (.invokevirtual 71, 3) := by decide +kernel
theorem dX10_children_5 : decode cX10_children 5 = .ok (.invokevirtual 75, 3) := by decide +kernel
theorem dX10_children_8 : decode cX10_children 8 = .ok (.ireturn, 1) := by decide +kernel
theorem dX10_childAt_0 : decode cX10_childAt 0 = .ok (.aload_n 0, 1) := by decide +kernel
theorem dX10_childAt_1 : decode cX10_childAt 1 = .ok (.iload_n 1, 1) := by decide +kernel
theorem dX10_childAt_2 : decode cX10_childAt 2 = .ok (.invokevirtual 71, 3) := by decide +kernel
theorem dX10_childAt_5 : decode cX10_childAt 5 = .ok (.iload_n 2, 1) := by decide +kernel
theorem dX10_childAt_6 : decode cX10_childAt 6 = .ok (.invokevirtual 182, 3) := by decide +kernel
theorem dX10_childAt_9 : decode cX10_childAt 9 = .ok (.astore_n 3, 1) := by decide +kernel
theorem dX10_childAt_10 : decode cX10_childAt 10 = .ok (.aload_n 3, 1) := by decide +kernel
theorem dX10_childAt_11 : decode cX10_childAt 11 = .ok (.ifnonnull 13, 3) := by decide +kernel
theorem dX10_childAt_14 : decode cX10_childAt 14 = .ok (.new 185, 3) := by decide +kernel
theorem dX10_childAt_17 : decode cX10_childAt 17 = .ok (.dup, 1) := by decide +kernel
theorem dX10_childAt_18 : decode cX10_childAt 18 = .ok (.ldc 187, 2) := by decide +kernel
theorem dX10_childAt_20 : decode cX10_childAt 20 = .ok (.invokespecial 189, 3) := by decide +kernel
theorem dX10_childAt_23 : decode cX10_childAt 23 = .ok (.athrow, 1) := by decide +kernel
theorem dX10_childAt_24 : decode cX10_childAt 24 = .ok (.aload_n 3, 1) := by decide +kernel
theorem dX10_childAt_25 : decode cX10_childAt 25 = .ok (.getfield 103, 3) := by decide +kernel
theorem dX10_childAt_28 : decode cX10_childAt 28 = .ok (.ireturn, 1) := by decide +kernel
theorem dX10_nameLength_0 : decode cX10_nameLength 0 = .ok (.aload_n 0, 1) := by decide +kernel
theorem dX10_nameLength_1 : decode cX10_nameLength 1 = .ok (.iload_n 1, 1) := by decide +kernel
theorem dX10_nameLength_2 : decode cX10_nameLength 2 = .ok (.invokevirtual 71, 3) := by decide +kernel
theorem dX10_nameLength_5 : decode cX10_nameLength 5 = .ok (.getfield 138, 3) := by decide +kernel
theorem dX10_nameLength_8 : decode cX10_nameLength 8 = .ok (.invokevirtual 59, 3) := by decide +kernel
theorem dX10_nameLength_11 : decode cX10_nameLength 11 = .ok (.ireturn, 1) := by decide +kernel
theorem dX10_codeAt_0 : decode cX10_codeAt 0 = .ok (.iload_n 1, 1) := by decide +kernel
theorem dX10_codeAt_1 : decode cX10_codeAt 1 = .ok (.ifCond .lt 11, 3) := by decide +kernel
theorem dX10_codeAt_4 : decode cX10_codeAt 4 = .ok (.iload_n 1, 1) := by decide +kernel
theorem dX10_codeAt_5 : decode cX10_codeAt 5 = .ok (.aload_n 0, 1) := by decide +kernel
theorem dX10_codeAt_6 : decode cX10_codeAt 6 = .ok (.invokevirtual 59, 3) := by decide +kernel
theorem dX10_codeAt_9 : decode cX10_codeAt 9 = .ok (.if_icmp .lt 14, 3) := by decide +kernel
theorem dX10_codeAt_12 : decode cX10_codeAt 12 = .ok (.new 185, 3) := by decide +kernel
theorem dX10_codeAt_15 : decode cX10_codeAt 15 = .ok (.dup, 1) := by decide +kernel
theorem dX10_codeAt_16 : decode cX10_codeAt 16 = .ok (.ldc_w 326, 3) := by decide +kernel
theorem dX10_codeAt_19 : decode cX10_codeAt 19 = .ok (.invokespecial 189, 3) := by decide +kernel
theorem dX10_codeAt_22 : decode cX10_codeAt 22 = .ok (.athrow, 1) := by decide +kernel
theorem dX10_codeAt_23 : decode cX10_codeAt 23 = .ok (.aload_n 0, 1) := by decide +kernel
theorem dX10_codeAt_24 : decode cX10_codeAt 24 = .ok (.iload_n 1, 1) := by decide +kernel
theorem dX10_codeAt_25 : decode cX10_codeAt 25 = .ok (.invokevirtual 328, 3) := by decide +kernel
theorem dX10_codeAt_28 : decode cX10_codeAt 28 = .ok (.ireturn, 1) := by decide +kernel
abbrev mX10_hide : gM := (yX10_hide, cX10_hide, 6, (Option.some FieldType.boolean), [])
theorem caX10_hide : cal mX10_hide 2 := ⟨xw 949 (by decide +kernel) rfl, xw 87 (by decide +kernel) rfl, by decide, by decide +kernel⟩
theorem cvX10_hide : calV mX10_hide := ⟨xw 947 (by decide +kernel) rfl, xw 948 (by decide +kernel) rfl⟩
abbrev mX10_rename : gM := (yX10_rename, cX10_rename, 4, (Option.some FieldType.int), [])
theorem caX10_rename : cal mX10_rename 1 := ⟨xw 957 (by decide +kernel) rfl, xw 87 (by decide +kernel) rfl, by decide, by decide +kernel⟩
theorem cvX10_rename : calV mX10_rename := ⟨xw 955 (by decide +kernel) rfl, xw 956 (by decide +kernel) rfl⟩
abbrev mX10_set : gM := (yX10_set, cX10_set, 5, (Option.some FieldType.boolean), [])
theorem caX10_set : cal mX10_set 2 := ⟨xw 973 (by decide +kernel) rfl, xw 87 (by decide +kernel) rfl, by decide, by decide +kernel⟩
theorem cvX10_set : calV mX10_set := ⟨xw 971 (by decide +kernel) rfl, xw 972 (by decide +kernel) rfl⟩
abbrev mX10_setRule : gM := (yX10_setRule, cX10_setRule, 5, (Option.some FieldType.int), [])
theorem caX10_setRule : cal mX10_setRule 2 := ⟨xw 981 (by decide +kernel) rfl, xw 87 (by decide +kernel) rfl, by decide, by decide +kernel⟩
theorem cvX10_setRule : calV mX10_setRule := ⟨xw 979 (by decide +kernel) rfl, xw 980 (by decide +kernel) rfl⟩
abbrev mX10_setManner : gM := (yX10_setManner, cX10_setManner, 5, (Option.some FieldType.int), [])
theorem caX10_setManner : cal mX10_setManner 2 := ⟨xw 989 (by decide +kernel) rfl, xw 87 (by decide +kernel) rfl, by decide, by decide +kernel⟩
theorem cvX10_setManner : calV mX10_setManner := ⟨xw 987 (by decide +kernel) rfl, xw 988 (by decide +kernel) rfl⟩
abbrev mX10_elements : gM := (yX10_elements, cX10_elements, 1, (Option.some FieldType.int), [])
theorem caX10_elements : cal mX10_elements 0 := ⟨xw 541 (by decide +kernel) rfl, xw 87 (by decide +kernel) rfl, by decide, by decide +kernel⟩
theorem cvX10_elements : calV mX10_elements := ⟨xw 539 (by decide +kernel) rfl, xw 540 (by decide +kernel) rfl⟩
abbrev mX10_kind : gM := (yX10_kind, cX10_kind, 2, (Option.some FieldType.int), [])
theorem caX10_kind : cal mX10_kind 1 := ⟨xw 999 (by decide +kernel) rfl, xw 87 (by decide +kernel) rfl, by decide, by decide +kernel⟩
theorem cvX10_kind : calV mX10_kind := ⟨xw 997 (by decide +kernel) rfl, xw 998 (by decide +kernel) rfl⟩
abbrev mX10_parent : gM := (yX10_parent, cX10_parent, 3, (Option.some FieldType.int), [])
theorem caX10_parent : cal mX10_parent 1 := ⟨xw 1006 (by decide +kernel) rfl, xw 87 (by decide +kernel) rfl, by decide, by decide +kernel⟩
theorem cvX10_parent : calV mX10_parent := ⟨xw 1004 (by decide +kernel) rfl, xw 1005 (by decide +kernel) rfl⟩
abbrev mX10_children : gM := (yX10_children, cX10_children, 2, (Option.some FieldType.int), [])
theorem caX10_children : cal mX10_children 1 := ⟨xw 1013 (by decide +kernel) rfl, xw 87 (by decide +kernel) rfl, by decide, by decide +kernel⟩
theorem cvX10_children : calV mX10_children := ⟨xw 1011 (by decide +kernel) rfl, xw 1012 (by decide +kernel) rfl⟩
abbrev mX10_childAt : gM := (yX10_childAt, cX10_childAt, 4, (Option.some FieldType.int), [])
theorem caX10_childAt : cal mX10_childAt 2 := ⟨xw 1020 (by decide +kernel) rfl, xw 87 (by decide +kernel) rfl, by decide, by decide +kernel⟩
theorem cvX10_childAt : calV mX10_childAt := ⟨xw 1018 (by decide +kernel) rfl, xw 1019 (by decide +kernel) rfl⟩
abbrev mX10_nameLength : gM := (yX10_nameLength, cX10_nameLength, 2, (Option.some FieldType.int), [])
theorem caX10_nameLength : cal mX10_nameLength 1 := ⟨xw 1029 (by decide +kernel) rfl, xw 87 (by decide +kernel) rfl, by decide, by decide +kernel⟩
theorem cvX10_nameLength : calV mX10_nameLength := ⟨xw 1027 (by decide +kernel) rfl, xw 1028 (by decide +kernel) rfl⟩
abbrev mX10_codeAt : gM := (yX10_codeAt, cX10_codeAt, 2, (Option.some FieldType.int), [])
theorem caX10_codeAt : cal mX10_codeAt 2 := ⟨xw 1039 (by decide +kernel) rfl, xw 87 (by decide +kernel) rfl, by decide, by decide +kernel⟩
theorem csX10_codeAt : Cond.static yX10_codeAt ∈ XW := xw 1038 (by decide +kernel) rfl
theorem flX10_131 : fl RX10 131 1 7 := ⟨by decide, by decide, xw 171 (by decide +kernel) rfl⟩
theorem lkX10_135 : Cond.methodLink RX10 135 yX7_reorder ∈ XW := xw 950 (by decide +kernel) rfl
theorem flX10_138 : fl RX10 138 1 5 := ⟨by decide, by decide, xw 162 (by decide +kernel) rfl⟩
theorem lkX10_141 : Cond.methodLink RX10 141 yX1_isSame ∈ XW := xw 958 (by decide +kernel) rfl
theorem lkX10_145 : Cond.methodLink RX10 145 yX1_copy ∈ XW := xw 962 (by decide +kernel) rfl
theorem lkX10_149 : Cond.methodLink RX10 149 yX5_refreshPins ∈ XW := xw 963 (by decide +kernel) rfl
theorem flX10_152 : fl RX10 152 1 1 := ⟨by decide, by decide, xw 150 (by decide +kernel) rfl⟩
theorem flX10_157 : fl RX10 157 1 8 := ⟨by decide, by decide, xw 173 (by decide +kernel) rfl⟩
theorem flX10_162 : fl RX10 162 1 10 := ⟨by decide, by decide, xw 180 (by decide +kernel) rfl⟩
theorem flX10_169 : fl RX10 169 1 11 := ⟨by decide, by decide, xw 183 (by decide +kernel) rfl⟩
theorem lkX10_172 : Cond.methodLink RX10 172 yX6_swallow ∈ XW := xw 992 (by decide +kernel) rfl
theorem flX10_175 : fl RX10 175 6 3 := ⟨by decide, by decide, xw 224 (by decide +kernel) rfl⟩
theorem lkX10_182 : Cond.methodLink RX10 182 yX2_child ∈ XW := xw 1021 (by decide +kernel) rfl
theorem lkX10_328 : Cond.methodLink RX10 328 yX1_at ∈ XW := xw 1041 (by decide +kernel) rfl
/-! BrailleDesk.hide -/
def fX10_hide (a0 : Nat) (a1 : Int32) (a2 : Int32) (h : hp) : Option ((Int32 ⊕ String) × hp) :=
  (oOb 9 (some a0) h).bind fun b =>
  oC (fX10_existing b a1 h) (fun E => (.inr E, h)) fun x1 =>
  oC (fX10_refuseScreen x1 h) (fun E => (.inr E, h)) fun _ =>
  (oOb 9 (some a0) h).bind fun b =>
  oC (fX10_refuseManyAlerts b h) (fun E => (.inr E, h)) fun _ =>
  (oGI 1 7 x1 h).bind fun x4 =>
  (oOb 1 x1 h).bind fun b =>
  (fX2_isShownNow b h).bind fun x5 =>
  (oPZ 1 7 x1 a2 h).bind fun h6 =>
  (oGR 9 0 (some a0) h6).bind fun x7 =>
  (oOb 6 x7 h6).bind fun b =>
  o2 (fX7_reorder b h6) fun _ h9 =>
  oR (τ := ((Int32 ⊕ String) × hp)) (σ := Unit)
  (if x5 = 0 then
  (some (.inr ()))
  else
  if a2 = 0 then
  (some (.inr ()))
  else
  (oGR 9 2 (some a0) h9).bind fun x12 =>
  (oOb 5 x12 h9).bind fun b =>
  o2 (fX6_tellGone b x1 h9) fun _ h14 =>
  (oGR 9 3 (some a0) h14).bind fun x15 =>
  (oOb 1 x1 h14).bind fun b =>
  (fX2_refuge b h14).bind fun x16 =>
  (oOb 4 x15 h14).bind fun b =>
  o2 (fX5_lose b x1 x16 h14) fun _ h18 =>
  (oBo x4).bind fun _ =>
  some (.inl ((.inl x4, h18))))
  fun q10 =>
  if x4 = 0 then
  ((oBo x4).bind fun _ =>
  some ((.inl x4, h9)))
  else
  if a2 = 0 then
  ((oGR 9 2 (some a0) h9).bind fun x19 =>
  (oOb 5 x19 h9).bind fun b =>
  o2 (fX6_tellWords b x1 h9) fun _ h21 =>
  (oBo x4).bind fun _ =>
  some ((.inl x4, h21)))
  else
  (oBo x4).bind fun _ =>
  some ((.inl x4, h9))
theorem tX10_hide {G : gG} (a0 : Nat) (a1 : Int32) (a2 : Int32) (h : hp) (Q : hQ) (hF : okB (fX10_hide a0 a1 a2 h) (pX gI Q)) : gS G mX10_hide 53 3 18 [sr (some a0), si a1, si a2] h Q := by
  delta fX10_hide at hF
  refine gS_at [some (sr (some a0)), some (si a1), some (si a2), none, none, none] pl_X10 rfl (Nat.le_of_ble_eq_true rfl) rfl ?_
  refine v_aload_n (pc := 0) (i := 0) dX10_hide_0 rfl rfl ?_
  refine v_iload_n (pc := 1) (i := 1) dX10_hide_1 rfl rfl ?_
  refine ct_V (pc := 2) gR (as := [si a1]) (st := []) (ci := 9) (k := 2) (n := 12) dX10_hide_2 lkX10_71 caX10_existing cvX10_existing rfl (by decide) rfl (fun b Q1 hq => tX10_existing b a1 h Q1 hq) ⟨by decide, by decide⟩ (Nat.le_of_ble_eq_true rfl) rfl hF (fun E hp => hp) (fun x1 hF => ?_)
  show gV G mX10_hide 53 Q 5 [some (sr (some a0)), some (si a1), some (si a2), none, none, none] [sr x1] (2) (12) h
  refine v_astore_n (pc := 5) (i := 3) [some (sr (some a0)), some (si a1), some (si a2), some (sr x1), none, none] dX10_hide_5 rfl (by decide) rfl rfl ?_
  refine v_aload_n (pc := 6) (i := 3) dX10_hide_6 rfl rfl ?_
  refine ct_S (pc := 7) gU (as := [sr x1]) (st := []) (k := 1) (n := 6) dX10_hide_7 lkX10_107 caX10_refuseScreen csX10_refuseScreen rfl (fun Q1 hq => tX10_refuseScreen x1 h Q1 hq) ⟨by decide, by decide⟩ (Nat.le_of_ble_eq_true rfl) rfl hF (fun E hp => hp) (fun x2 hF => ?_)
  show gV G mX10_hide 53 Q 10 [some (sr (some a0)), some (si a1), some (si a2), some (sr x1), none, none] [] (1) (6) h
  refine v_aload_n (pc := 10) (i := 0) dX10_hide_10 rfl rfl ?_
  refine ct_V (pc := 11) gU (as := []) (st := []) (ci := 9) (k := 0) (n := 0) dX10_hide_11 lkX10_89 caX10_refuseManyAlerts cvX10_refuseManyAlerts rfl (by decide) rfl (fun b Q1 hq => tX10_refuseManyAlerts b h Q1 hq) ⟨by decide, by decide⟩ (Nat.le_of_ble_eq_true rfl) rfl hF (fun E hp => hp) (fun x3 hF => ?_)
  show gV G mX10_hide 53 Q 14 [some (sr (some a0)), some (si a1), some (si a2), some (sr x1), none, none] [] (0) (0) h
  refine v_aload_n (pc := 14) (i := 3) dX10_hide_14 rfl rfl ?_
  refine s_getI (pc := 15) dX10_hide_15 flX10_131 rfl hF (fun x4 hF => ?_)
  refine v_istore (pc := 18) (i := 4) [some (sr (some a0)), some (si a1), some (si a2), some (sr x1), some (si x4), none] dX10_hide_18 (by decide) rfl rfl ?_
  refine v_aload_n (pc := 20) (i := 3) dX10_hide_20 rfl rfl ?_
  refine cp_V (pc := 21) gI (as := []) (st := []) (ci := 1) (k := 0) (n := 0) dX10_hide_21 lkX10_110 caX2_isShownNow cvX2_isShownNow rfl (by decide) rfl (fun b Q1 hq => tX2_isShownNow b h Q1 hq) ⟨by decide, by decide⟩ (Nat.le_of_ble_eq_true rfl) rfl hF (fun x5 hF => ?_)
  show gV G mX10_hide 53 Q 24 [some (sr (some a0)), some (si a1), some (si a2), some (sr x1), some (si x4), none] [si x5] (0) (0) h
  refine v_istore (pc := 24) (i := 5) [some (sr (some a0)), some (si a1), some (si a2), some (sr x1), some (si x4), some (si x5)] dX10_hide_24 (by decide) rfl rfl ?_
  refine v_aload_n (pc := 26) (i := 3) dX10_hide_26 rfl rfl ?_
  refine v_iload_n (pc := 27) (i := 2) dX10_hide_27 rfl rfl ?_
  refine s_putZ (pc := 28) dX10_hide_28 flX10_131 (Or.inl rfl) rfl hF (fun h6 hF => ?_)
  refine v_aload_n (pc := 31) (i := 0) dX10_hide_31 rfl rfl ?_
  refine s_getR (pc := 32) dX10_hide_32 flX10_10 rfl hF (fun x7 hF => ?_)
  refine ch_V (pc := 35) gU (as := []) (st := []) (ci := 6) (k := 0) (n := 0) dX10_hide_35 lkX10_135 caX7_reorder cvX7_reorder rfl (by decide) rfl (fun b Q1 hq => tX7_reorder b h6 Q1 hq) ⟨by decide, by decide⟩ (Nat.le_of_ble_eq_true rfl) rfl hF (fun x8 h9 hF => ?_)
  show gV G mX10_hide 53 Q 38 [some (sr (some a0)), some (si a1), some (si a2), some (sr x1), some (si x4), some (si x5)] [] (0) (0) h9
  refine v_iload (pc := 38) (i := 5) dX10_hide_38 rfl ?_
  refine mgR (X := fun q10 => gV G mX10_hide 53 Q 70 [some (sr (some a0)), none, some (si a2), some (sr x1), some (si x4), none] [] (0) (0) h9) hF (fun _ hj11 hr11 hF => ?_) (fun q10 hF => ?_)
  · refine v_if_eq (pc := 40) 70 dX10_hide_40 rfl (fun hc => ?_) (fun hc => ?_)
    · replace hF := (okB_if hF).1 hc
      exact v_lle [some (sr (some a0)), none, some (si a2), some (sr x1), some (si x4), none] ⟨rfl, rfl, rfl, rfl, trivial⟩ (hj11 _ (okB_some hF))
    replace hF := (okB_if hF).2 hc
    refine v_iload_n (pc := 43) (i := 2) dX10_hide_43 rfl rfl ?_
    refine v_if_eq (pc := 44) 70 dX10_hide_44 rfl (fun hc => ?_) (fun hc => ?_)
    · replace hF := (okB_if hF).1 hc
      exact v_lle [some (sr (some a0)), none, some (si a2), some (sr x1), some (si x4), none] ⟨rfl, rfl, rfl, rfl, trivial⟩ (hj11 _ (okB_some hF))
    replace hF := (okB_if hF).2 hc
    refine v_aload_n (pc := 47) (i := 0) dX10_hide_47 rfl rfl ?_
    refine s_getR (pc := 48) dX10_hide_48 flX10_28 rfl hF (fun x12 hF => ?_)
    refine v_aload_n (pc := 51) (i := 3) dX10_hide_51 rfl rfl ?_
    refine ch_V (pc := 52) gU (as := [sr x1]) (st := []) (ci := 5) (k := 0) (n := 0) dX10_hide_52 lkX10_124 caX6_tellGone cvX6_tellGone rfl (by decide) rfl (fun b Q1 hq => tX6_tellGone b x1 h9 Q1 hq) ⟨by decide, by decide⟩ (Nat.le_of_ble_eq_true rfl) rfl hF (fun x13 h14 hF => ?_)
    show gV G mX10_hide 53 Q 55 [some (sr (some a0)), some (si a1), some (si a2), some (sr x1), some (si x4), some (si x5)] [] (0) (0) h14
    refine v_aload_n (pc := 55) (i := 0) dX10_hide_55 rfl rfl ?_
    refine s_getR (pc := 56) dX10_hide_56 flX10_35 rfl hF (fun x15 hF => ?_)
    refine v_aload_n (pc := 59) (i := 3) dX10_hide_59 rfl rfl ?_
    refine v_aload_n (pc := 60) (i := 3) dX10_hide_60 rfl rfl ?_
    refine cp_V (pc := 61) gR (as := []) (st := [sr x1, sr x15]) (ci := 1) (k := 0) (n := 0) dX10_hide_61 lkX10_113 caX2_refuge cvX2_refuge rfl (by decide) rfl (fun b Q1 hq => tX2_refuge b h14 Q1 hq) ⟨by decide, by decide⟩ (Nat.le_of_ble_eq_true rfl) rfl hF (fun x16 hF => ?_)
    show gV G mX10_hide 53 Q 64 [some (sr (some a0)), some (si a1), some (si a2), some (sr x1), some (si x4), some (si x5)] [sr x16, sr x1, sr x15] (0) (0) h14
    refine ch_V (pc := 64) gU (as := [sr x1, sr x16]) (st := []) (ci := 4) (k := 0) (n := 0) dX10_hide_64 lkX10_127 caX5_lose cvX5_lose rfl (by decide) rfl (fun b Q1 hq => tX5_lose b x1 x16 h14 Q1 hq) ⟨by decide, by decide⟩ (Nat.le_of_ble_eq_true rfl) rfl hF (fun x17 h18 hF => ?_)
    show gV G mX10_hide 53 Q 67 [some (sr (some a0)), some (si a1), some (si a2), some (sr x1), some (si x4), some (si x5)] [] (0) (0) h18
    refine v_goto (pc := 67) 87 dX10_hide_67 rfl ?_
    refine v_iload (pc := 87) (i := 4) dX10_hide_87 rfl ?_
    exact s_zret (pc := 89) dX10_hide_89 rfl hF (fun hF => (hr11 _ (okB_some hF)))
  refine v_iload (pc := 70) (i := 4) dX10_hide_70 rfl ?_
  refine v_if_eq (pc := 72) 87 dX10_hide_72 rfl (fun hc => ?_) (fun hc => ?_)
  · replace hF := (okB_if hF).1 hc
    refine v_iload (pc := 87) (i := 4) dX10_hide_87 rfl ?_
    exact s_zret (pc := 89) dX10_hide_89 rfl hF (fun hF => (okr hF fun q => q))
  replace hF := (okB_if hF).2 hc
  refine v_iload_n (pc := 75) (i := 2) dX10_hide_75 rfl rfl ?_
  refine v_if_ne (pc := 76) 87 dX10_hide_76 rfl (fun hc => ?_) (fun hc => ?_)
  · replace hF := (okB_if hF).2 hc
    refine v_iload (pc := 87) (i := 4) dX10_hide_87 rfl ?_
    exact s_zret (pc := 89) dX10_hide_89 rfl hF (fun hF => (okr hF fun q => q))
  replace hF := (okB_if hF).1 hc
  refine v_aload_n (pc := 79) (i := 0) dX10_hide_79 rfl rfl ?_
  refine s_getR (pc := 80) dX10_hide_80 flX10_28 rfl hF (fun x19 hF => ?_)
  refine v_aload_n (pc := 83) (i := 3) dX10_hide_83 rfl rfl ?_
  refine ch_V (pc := 84) gU (as := [sr x1]) (st := []) (ci := 5) (k := 0) (n := 0) dX10_hide_84 lkX10_99 caX6_tellWords cvX6_tellWords rfl (by decide) rfl (fun b Q1 hq => tX6_tellWords b x1 h9 Q1 hq) ⟨by decide, by decide⟩ (Nat.le_of_ble_eq_true rfl) rfl hF (fun x20 h21 hF => ?_)
  show gV G mX10_hide 53 Q 87 [some (sr (some a0)), none, some (si a2), some (sr x1), some (si x4), none] [] (0) (0) h21
  refine v_iload (pc := 87) (i := 4) dX10_hide_87 rfl ?_
  exact s_zret (pc := 89) dX10_hide_89 rfl hF (fun hF => (okr hF fun q => q))
/-! BrailleDesk.rename -/
def fX10_rename (a0 : Nat) (a1 : Int32) (h : hp) : Option ((Int32 ⊕ String) × hp) :=
  (oOb 9 (some a0) h).bind fun b =>
  oC (fX10_existing b a1 h) (fun E => (.inr E, h)) fun x1 =>
  oC (fX10_refuseScreen x1 h) (fun E => (.inr E, h)) fun _ =>
  (oOb 9 (some a0) h).bind fun b =>
  oC (fX10_refuseManyAlerts b h) (fun E => (.inr E, h)) fun _ =>
  (oGR 1 5 x1 h).bind fun x4 =>
  (oGR 9 4 (some a0) h).bind fun x5 =>
  (oOb 0 x4 h).bind fun b =>
  (fX1_isSame b x5 h).bind fun x6 =>
  Option.bind (α := Int32)
  (if x6 = 0 then
  (some (1 : Int32))
  else
  some (0 : Int32))
  fun q7 =>
  (oGR 1 5 x1 h).bind fun x9 =>
  (oGR 9 4 (some a0) h).bind fun x10 =>
  (oOb 0 x9 h).bind fun b =>
  o2 (fX1_copy b x10 h) fun _ h12 =>
  (oGR 9 4 (some a0) h12).bind fun x13 =>
  (oOb 0 x13 h12).bind fun b =>
  o2 (fX1_clear b h12) fun _ h15 =>
  Option.bind (α := hp)
  (if q7 = 0 then
  (some h15)
  else
  (oGR 9 2 (some a0) h15).bind fun x18 =>
  (oOb 5 x18 h15).bind fun b =>
  o2 (fX6_tellWords b x1 h15) fun _ h20 =>
  some h20)
  fun q16 =>
  (oGR 9 3 (some a0) q16).bind fun x21 =>
  (oOb 4 x21 q16).bind fun b =>
  o2 (fX5_refreshPins b q16) fun _ h23 =>
  (oGR 1 5 x1 h23).bind fun x24 =>
  (oOb 0 x24 h23).bind fun b =>
  (fX1_size b h23).bind fun x25 =>
  some ((.inl x25, h23))
theorem tX10_rename {G : gG} (a0 : Nat) (a1 : Int32) (h : hp) (Q : hQ) (hF : okB (fX10_rename a0 a1 h) (pX gI Q)) : gS G mX10_rename 8 3 18 [sr (some a0), si a1] h Q := by
  delta fX10_rename at hF
  refine gS_at [some (sr (some a0)), some (si a1), none, none] pl_X10 rfl (Nat.le_of_ble_eq_true rfl) rfl ?_
  refine v_aload_n (pc := 0) (i := 0) dX10_rename_0 rfl rfl ?_
  refine v_iload_n (pc := 1) (i := 1) dX10_rename_1 rfl rfl ?_
  refine ct_V (pc := 2) gR (as := [si a1]) (st := []) (ci := 9) (k := 2) (n := 12) dX10_rename_2 lkX10_71 caX10_existing cvX10_existing rfl (by decide) rfl (fun b Q1 hq => tX10_existing b a1 h Q1 hq) ⟨by decide, by decide⟩ (Nat.le_of_ble_eq_true rfl) rfl hF (fun E hp => hp) (fun x1 hF => ?_)
  show gV G mX10_rename 8 Q 5 [some (sr (some a0)), some (si a1), none, none] [sr x1] (2) (12) h
  refine v_astore_n (pc := 5) (i := 2) [some (sr (some a0)), some (si a1), some (sr x1), none] dX10_rename_5 rfl (by decide) rfl rfl ?_
  refine v_aload_n (pc := 6) (i := 2) dX10_rename_6 rfl rfl ?_
  refine ct_S (pc := 7) gU (as := [sr x1]) (st := []) (k := 1) (n := 6) dX10_rename_7 lkX10_107 caX10_refuseScreen csX10_refuseScreen rfl (fun Q1 hq => tX10_refuseScreen x1 h Q1 hq) ⟨by decide, by decide⟩ (Nat.le_of_ble_eq_true rfl) rfl hF (fun E hp => hp) (fun x2 hF => ?_)
  show gV G mX10_rename 8 Q 10 [some (sr (some a0)), some (si a1), some (sr x1), none] [] (1) (6) h
  refine v_aload_n (pc := 10) (i := 0) dX10_rename_10 rfl rfl ?_
  refine ct_V (pc := 11) gU (as := []) (st := []) (ci := 9) (k := 0) (n := 0) dX10_rename_11 lkX10_89 caX10_refuseManyAlerts cvX10_refuseManyAlerts rfl (by decide) rfl (fun b Q1 hq => tX10_refuseManyAlerts b h Q1 hq) ⟨by decide, by decide⟩ (Nat.le_of_ble_eq_true rfl) rfl hF (fun E hp => hp) (fun x3 hF => ?_)
  show gV G mX10_rename 8 Q 14 [some (sr (some a0)), some (si a1), some (sr x1), none] [] (0) (0) h
  refine v_aload_n (pc := 14) (i := 2) dX10_rename_14 rfl rfl ?_
  refine s_getR (pc := 15) dX10_rename_15 flX10_138 rfl hF (fun x4 hF => ?_)
  refine v_aload_n (pc := 18) (i := 0) dX10_rename_18 rfl rfl ?_
  refine s_getR (pc := 19) dX10_rename_19 flX10_44 rfl hF (fun x5 hF => ?_)
  refine cp_V (pc := 22) gI (as := [sr x5]) (st := []) (ci := 0) (k := 0) (n := 0) dX10_rename_22 lkX10_141 caX1_isSame cvX1_isSame rfl (by decide) rfl (fun b Q1 hq => tX1_isSame b x5 h Q1 hq) ⟨by decide, by decide⟩ (Nat.le_of_ble_eq_true rfl) rfl hF (fun x6 hF => ?_)
  show gV G mX10_rename 8 Q 25 [some (sr (some a0)), some (si a1), some (sr x1), none] [si x6] (0) (0) h
  refine mg (X := fun q7 => gV G mX10_rename 8 Q 33 [some (sr (some a0)), none, some (sr x1), none] [si q7] (0) (0) h) hF (fun _ hj8 hF => ?_) (fun q7 hF => ?_)
  · refine v_if_ne (pc := 25) 32 dX10_rename_25 rfl (fun hc => ?_) (fun hc => ?_)
    · replace hF := (okB_if hF).2 hc
      refine v_iconst (pc := 32) (v := (0 : Int32)) dX10_rename_32 rfl ?_
      exact v_lle [some (sr (some a0)), none, some (sr x1), none] ⟨rfl, rfl, trivial⟩ (hj8 _ (okB_some hF))
    replace hF := (okB_if hF).1 hc
    refine v_iconst (pc := 28) (v := (1 : Int32)) dX10_rename_28 rfl ?_
    refine v_goto (pc := 29) 33 dX10_rename_29 rfl ?_
    exact v_lle [some (sr (some a0)), none, some (sr x1), none] ⟨rfl, rfl, trivial⟩ (hj8 _ (okB_some hF))
  refine v_istore_n (pc := 33) (i := 3) [some (sr (some a0)), none, some (sr x1), some (si q7)] dX10_rename_33 rfl (by decide) rfl rfl ?_
  refine v_aload_n (pc := 34) (i := 2) dX10_rename_34 rfl rfl ?_
  refine s_getR (pc := 35) dX10_rename_35 flX10_138 rfl hF (fun x9 hF => ?_)
  refine v_aload_n (pc := 38) (i := 0) dX10_rename_38 rfl rfl ?_
  refine s_getR (pc := 39) dX10_rename_39 flX10_44 rfl hF (fun x10 hF => ?_)
  refine ch_V (pc := 42) gU (as := [sr x10]) (st := []) (ci := 0) (k := 0) (n := 0) dX10_rename_42 lkX10_145 caX1_copy cvX1_copy rfl (by decide) rfl (fun b Q1 hq => tX1_copy b x10 h Q1 hq) ⟨by decide, by decide⟩ (Nat.le_of_ble_eq_true rfl) rfl hF (fun x11 h12 hF => ?_)
  show gV G mX10_rename 8 Q 45 [some (sr (some a0)), none, some (sr x1), some (si q7)] [] (0) (0) h12
  refine v_aload_n (pc := 45) (i := 0) dX10_rename_45 rfl rfl ?_
  refine s_getR (pc := 46) dX10_rename_46 flX10_44 rfl hF (fun x13 hF => ?_)
  refine ch_V (pc := 49) gU (as := []) (st := []) (ci := 0) (k := 0) (n := 0) dX10_rename_49 lkX10_96 caX1_clear cvX1_clear rfl (by decide) rfl (fun b Q1 hq => tX1_clear b h12 Q1 hq) ⟨by decide, by decide⟩ (Nat.le_of_ble_eq_true rfl) rfl hF (fun x14 h15 hF => ?_)
  show gV G mX10_rename 8 Q 52 [some (sr (some a0)), none, some (sr x1), some (si q7)] [] (0) (0) h15
  refine v_iload_n (pc := 52) (i := 3) dX10_rename_52 rfl rfl ?_
  refine mg (X := fun q16 => gV G mX10_rename 8 Q 64 [some (sr (some a0)), none, some (sr x1), none] [] (0) (0) q16) hF (fun _ hj17 hF => ?_) (fun q16 hF => ?_)
  · refine v_if_eq (pc := 53) 64 dX10_rename_53 rfl (fun hc => ?_) (fun hc => ?_)
    · replace hF := (okB_if hF).1 hc
      exact v_lle [some (sr (some a0)), none, some (sr x1), none] ⟨rfl, rfl, trivial⟩ (hj17 _ (okB_some hF))
    replace hF := (okB_if hF).2 hc
    refine v_aload_n (pc := 56) (i := 0) dX10_rename_56 rfl rfl ?_
    refine s_getR (pc := 57) dX10_rename_57 flX10_28 rfl hF (fun x18 hF => ?_)
    refine v_aload_n (pc := 60) (i := 2) dX10_rename_60 rfl rfl ?_
    refine ch_V (pc := 61) gU (as := [sr x1]) (st := []) (ci := 5) (k := 0) (n := 0) dX10_rename_61 lkX10_99 caX6_tellWords cvX6_tellWords rfl (by decide) rfl (fun b Q1 hq => tX6_tellWords b x1 h15 Q1 hq) ⟨by decide, by decide⟩ (Nat.le_of_ble_eq_true rfl) rfl hF (fun x19 h20 hF => ?_)
    show gV G mX10_rename 8 Q 64 [some (sr (some a0)), none, some (sr x1), some (si q7)] [] (0) (0) h20
    exact v_lle [some (sr (some a0)), none, some (sr x1), none] ⟨rfl, rfl, trivial⟩ (hj17 _ (okB_some hF))
  refine v_aload_n (pc := 64) (i := 0) dX10_rename_64 rfl rfl ?_
  refine s_getR (pc := 65) dX10_rename_65 flX10_35 rfl hF (fun x21 hF => ?_)
  refine ch_V (pc := 68) gU (as := []) (st := []) (ci := 4) (k := 0) (n := 0) dX10_rename_68 lkX10_149 caX5_refreshPins cvX5_refreshPins rfl (by decide) rfl (fun b Q1 hq => tX5_refreshPins b q16 Q1 hq) ⟨by decide, by decide⟩ (Nat.le_of_ble_eq_true rfl) rfl hF (fun x22 h23 hF => ?_)
  show gV G mX10_rename 8 Q 71 [some (sr (some a0)), none, some (sr x1), none] [] (0) (0) h23
  refine v_aload_n (pc := 71) (i := 2) dX10_rename_71 rfl rfl ?_
  refine s_getR (pc := 72) dX10_rename_72 flX10_138 rfl hF (fun x24 hF => ?_)
  refine cp_V (pc := 75) gI (as := []) (st := []) (ci := 0) (k := 0) (n := 0) dX10_rename_75 lkX10_59 caX1_size cvX1_size rfl (by decide) rfl (fun b Q1 hq => tX1_size b h23 Q1 hq) ⟨by decide, by decide⟩ (Nat.le_of_ble_eq_true rfl) rfl hF (fun x25 hF => ?_)
  show gV G mX10_rename 8 Q 78 [some (sr (some a0)), none, some (sr x1), none] [si x25] (0) (0) h23
  exact v_iret (pc := 78) dX10_rename_78 rfl rfl (okr hF fun q => q)
/-! BrailleDesk.set -/
def fX10_set (a0 : Nat) (a1 : Int32) (a2 : Int32) (h : hp) : Option ((Int32 ⊕ String) × hp) :=
  (oOb 9 (some a0) h).bind fun b =>
  oC (fX10_existing b a1 h) (fun E => (.inr E, h)) fun x1 =>
  (oGI 1 1 x1 h).bind fun x2 =>
  if x2 = (3 : Int32) then
  ((oOb 9 (some a0) h).bind fun b =>
  oC (fX10_refuseManyAlerts b h) (fun E => (.inr E, h)) fun _ =>
  (oGI 1 8 x1 h).bind fun x4 =>
  (oPZ 1 8 x1 a2 h).bind fun h5 =>
  Option.bind (α := hp)
  (if x4 = a2 then
  (some h5)
  else
  (oGR 9 2 (some a0) h5).bind fun x8 =>
  (oOb 5 x8 h5).bind fun b =>
  o2 (fX6_tellWords b x1 h5) fun _ h10 =>
  some h10)
  fun q6 =>
  (oGR 9 3 (some a0) q6).bind fun x11 =>
  (oOb 4 x11 q6).bind fun b =>
  o2 (fX5_refreshPins b q6) fun _ h13 =>
  (oBo x4).bind fun _ =>
  some ((.inl x4, h13)))
  else
  some ((.inr "java/lang/IllegalStateException", h))
theorem tX10_set {G : gG} (a0 : Nat) (a1 : Int32) (a2 : Int32) (h : hp) (Q : hQ) (hF : okB (fX10_set a0 a1 a2 h) (pX gI Q)) : gS G mX10_set 8 2 12 [sr (some a0), si a1, si a2] h Q := by
  delta fX10_set at hF
  refine gS_at [some (sr (some a0)), some (si a1), some (si a2), none, none] pl_X10 rfl (Nat.le_of_ble_eq_true rfl) rfl ?_
  refine v_aload_n (pc := 0) (i := 0) dX10_set_0 rfl rfl ?_
  refine v_iload_n (pc := 1) (i := 1) dX10_set_1 rfl rfl ?_
  refine ct_V (pc := 2) gR (as := [si a1]) (st := []) (ci := 9) (k := 1) (n := 6) dX10_set_2 lkX10_71 caX10_existing cvX10_existing rfl (by decide) rfl (fun b Q1 hq => tX10_existing b a1 h Q1 hq) ⟨by decide, by decide⟩ (Nat.le_of_ble_eq_true rfl) rfl hF (fun E hp => hp) (fun x1 hF => ?_)
  show gV G mX10_set 8 Q 5 [some (sr (some a0)), some (si a1), some (si a2), none, none] [sr x1] (1) (6) h
  refine v_astore_n (pc := 5) (i := 3) [some (sr (some a0)), some (si a1), some (si a2), some (sr x1), none] dX10_set_5 rfl (by decide) rfl rfl ?_
  refine v_aload_n (pc := 6) (i := 3) dX10_set_6 rfl rfl ?_
  refine s_getI (pc := 7) dX10_set_7 flX10_152 rfl hF (fun x2 hF => ?_)
  refine v_iconst (pc := 10) (v := (3 : Int32)) dX10_set_10 rfl ?_
  refine v_icmp_eq (pc := 11) 24 dX10_set_11 rfl (fun hc => ?_) (fun hc => ?_)
  · replace hF := (okB_if hF).1 hc
    refine v_aload_n (pc := 24) (i := 0) dX10_set_24 rfl rfl ?_
    refine ct_V (pc := 25) gU (as := []) (st := []) (ci := 9) (k := 0) (n := 0) dX10_set_25 lkX10_89 caX10_refuseManyAlerts cvX10_refuseManyAlerts rfl (by decide) rfl (fun b Q1 hq => tX10_refuseManyAlerts b h Q1 hq) ⟨by decide, by decide⟩ (Nat.le_of_ble_eq_true rfl) rfl hF (fun E hp => hp) (fun x3 hF => ?_)
    show gV G mX10_set 8 Q 28 [some (sr (some a0)), some (si a1), some (si a2), some (sr x1), none] [] (0) (0) h
    refine v_aload_n (pc := 28) (i := 3) dX10_set_28 rfl rfl ?_
    refine s_getI (pc := 29) dX10_set_29 flX10_157 rfl hF (fun x4 hF => ?_)
    refine v_istore (pc := 32) (i := 4) [some (sr (some a0)), some (si a1), some (si a2), some (sr x1), some (si x4)] dX10_set_32 (by decide) rfl rfl ?_
    refine v_aload_n (pc := 34) (i := 3) dX10_set_34 rfl rfl ?_
    refine v_iload_n (pc := 35) (i := 2) dX10_set_35 rfl rfl ?_
    refine s_putZ (pc := 36) dX10_set_36 flX10_157 (Or.inl rfl) rfl hF (fun h5 hF => ?_)
    refine v_iload (pc := 39) (i := 4) dX10_set_39 rfl ?_
    refine v_iload_n (pc := 41) (i := 2) dX10_set_41 rfl rfl ?_
    refine mg (X := fun q6 => gV G mX10_set 8 Q 53 [some (sr (some a0)), none, none, none, some (si x4)] [] (0) (0) q6) hF (fun _ hj7 hF => ?_) (fun q6 hF => ?_)
    · refine v_icmp_eq (pc := 42) 53 dX10_set_42 rfl (fun hc => ?_) (fun hc => ?_)
      · replace hF := (okB_if hF).1 hc
        exact v_lle [some (sr (some a0)), none, none, none, some (si x4)] ⟨rfl, rfl, trivial⟩ (hj7 _ (okB_some hF))
      replace hF := (okB_if hF).2 hc
      refine v_aload_n (pc := 45) (i := 0) dX10_set_45 rfl rfl ?_
      refine s_getR (pc := 46) dX10_set_46 flX10_28 rfl hF (fun x8 hF => ?_)
      refine v_aload_n (pc := 49) (i := 3) dX10_set_49 rfl rfl ?_
      refine ch_V (pc := 50) gU (as := [sr x1]) (st := []) (ci := 5) (k := 0) (n := 0) dX10_set_50 lkX10_99 caX6_tellWords cvX6_tellWords rfl (by decide) rfl (fun b Q1 hq => tX6_tellWords b x1 h5 Q1 hq) ⟨by decide, by decide⟩ (Nat.le_of_ble_eq_true rfl) rfl hF (fun x9 h10 hF => ?_)
      show gV G mX10_set 8 Q 53 [some (sr (some a0)), some (si a1), some (si a2), some (sr x1), some (si x4)] [] (0) (0) h10
      exact v_lle [some (sr (some a0)), none, none, none, some (si x4)] ⟨rfl, rfl, trivial⟩ (hj7 _ (okB_some hF))
    refine v_aload_n (pc := 53) (i := 0) dX10_set_53 rfl rfl ?_
    refine s_getR (pc := 54) dX10_set_54 flX10_35 rfl hF (fun x11 hF => ?_)
    refine ch_V (pc := 57) gU (as := []) (st := []) (ci := 4) (k := 0) (n := 0) dX10_set_57 lkX10_149 caX5_refreshPins cvX5_refreshPins rfl (by decide) rfl (fun b Q1 hq => tX5_refreshPins b q6 Q1 hq) ⟨by decide, by decide⟩ (Nat.le_of_ble_eq_true rfl) rfl hF (fun x12 h13 hF => ?_)
    show gV G mX10_set 8 Q 60 [some (sr (some a0)), none, none, none, some (si x4)] [] (0) (0) h13
    refine v_iload (pc := 60) (i := 4) dX10_set_60 rfl ?_
    exact s_zret (pc := 62) dX10_set_62 rfl hF (fun hF => (okr hF fun q => q))
  replace hF := (okB_if hF).2 hc
  exact v_throw (pc := 14) (k := 0) (n := 0) 20 dX10_set_14 dX10_set_17 dX10_set_18 dX10_set_20 dX10_set_23 rfl tfit_IllegalStateException tnames twX10_63_67 rfl (by decide) (Nat.le_of_ble_eq_true rfl) rfl (okr hF fun q => q)
/-! BrailleDesk.setRule -/
def fX10_setRule (a0 : Nat) (a1 : Int32) (a2 : Int32) (h : hp) : Option ((Int32 ⊕ String) × hp) :=
  (oOb 9 (some a0) h).bind fun b =>
  oC (fX10_existing b a1 h) (fun E => (.inr E, h)) fun x1 =>
  oR (τ := ((Int32 ⊕ String) × hp)) (σ := Unit)
  (if a2 = (-1 : Int32) then
  (some (.inr ()))
  else
  if a2 < 0 then
  (some (.inl ((.inr "java/lang/IllegalArgumentException", h))))
  else
  if a2 ≤ (2 : Int32) then
  (some (.inr ()))
  else
  some (.inl ((.inr "java/lang/IllegalArgumentException", h))))
  fun q2 =>
  (oGI 1 10 x1 h).bind fun x4 =>
  (oPI 1 10 x1 a2 h).bind fun h5 =>
  (oGR 9 3 (some a0) h5).bind fun x6 =>
  (oOb 4 x6 h5).bind fun b =>
  o2 (fX5_refreshPins b h5) fun _ h8 =>
  some ((.inl x4, h8))
theorem tX10_setRule {G : gG} (a0 : Nat) (a1 : Int32) (a2 : Int32) (h : hp) (Q : hQ) (hF : okB (fX10_setRule a0 a1 a2 h) (pX gI Q)) : gS G mX10_setRule 8 2 12 [sr (some a0), si a1, si a2] h Q := by
  delta fX10_setRule at hF
  refine gS_at [some (sr (some a0)), some (si a1), some (si a2), none, none] pl_X10 rfl (Nat.le_of_ble_eq_true rfl) rfl ?_
  refine v_aload_n (pc := 0) (i := 0) dX10_setRule_0 rfl rfl ?_
  refine v_iload_n (pc := 1) (i := 1) dX10_setRule_1 rfl rfl ?_
  refine ct_V (pc := 2) gR (as := [si a1]) (st := []) (ci := 9) (k := 1) (n := 6) dX10_setRule_2 lkX10_71 caX10_existing cvX10_existing rfl (by decide) rfl (fun b Q1 hq => tX10_existing b a1 h Q1 hq) ⟨by decide, by decide⟩ (Nat.le_of_ble_eq_true rfl) rfl hF (fun E hp => hp) (fun x1 hF => ?_)
  show gV G mX10_setRule 8 Q 5 [some (sr (some a0)), some (si a1), some (si a2), none, none] [sr x1] (1) (6) h
  refine v_astore_n (pc := 5) (i := 3) [some (sr (some a0)), some (si a1), some (si a2), some (sr x1), none] dX10_setRule_5 rfl (by decide) rfl rfl ?_
  refine v_iload_n (pc := 6) (i := 2) dX10_setRule_6 rfl rfl ?_
  refine v_iconst (pc := 7) (v := (-1 : Int32)) dX10_setRule_7 rfl ?_
  refine mgR (X := fun q2 => gV G mX10_setRule 8 Q 30 [some (sr (some a0)), none, some (si a2), some (sr x1), none] [] (0) (0) h) hF (fun _ hj3 hr3 hF => ?_) (fun q2 hF => ?_)
  · refine v_icmp_eq (pc := 8) 30 dX10_setRule_8 rfl (fun hc => ?_) (fun hc => ?_)
    · replace hF := (okB_if hF).1 hc
      exact v_room (k' := 0) (n' := 0) (by decide) (by decide) <| v_lle [some (sr (some a0)), none, some (si a2), some (sr x1), none] ⟨rfl, rfl, rfl, trivial⟩ (hj3 _ (okB_some hF))
    replace hF := (okB_if hF).2 hc
    refine v_iload_n (pc := 11) (i := 2) dX10_setRule_11 rfl rfl ?_
    refine v_if_lt (pc := 12) 20 dX10_setRule_12 rfl (fun hc => ?_) (fun hc => ?_)
    · replace hF := (okB_if hF).1 hc
      exact v_throw (pc := 20) (k := 0) (n := 0) 21 dX10_setRule_20 dX10_setRule_23 dX10_setRule_24 dX10_setRule_26 dX10_setRule_29 rfl tfit_IllegalArgumentException tnames twX10_52_56 rfl (by decide) (Nat.le_of_ble_eq_true rfl) rfl (hr3 _ (okB_some hF))
    replace hF := (okB_if hF).2 hc
    refine v_iload_n (pc := 15) (i := 2) dX10_setRule_15 rfl rfl ?_
    refine v_iconst (pc := 16) (v := (2 : Int32)) dX10_setRule_16 rfl ?_
    refine v_icmp_le (pc := 17) 30 dX10_setRule_17 rfl (fun hc => ?_) (fun hc => ?_)
    · replace hF := (okB_if hF).1 hc
      exact v_room (k' := 0) (n' := 0) (by decide) (by decide) <| v_lle [some (sr (some a0)), none, some (si a2), some (sr x1), none] ⟨rfl, rfl, rfl, trivial⟩ (hj3 _ (okB_some hF))
    replace hF := (okB_if hF).2 hc
    exact v_throw (pc := 20) (k := 0) (n := 0) 21 dX10_setRule_20 dX10_setRule_23 dX10_setRule_24 dX10_setRule_26 dX10_setRule_29 rfl tfit_IllegalArgumentException tnames twX10_52_56 rfl (by decide) (Nat.le_of_ble_eq_true rfl) rfl (hr3 _ (okB_some hF))
  refine v_aload_n (pc := 30) (i := 3) dX10_setRule_30 rfl rfl ?_
  refine s_getI (pc := 31) dX10_setRule_31 flX10_162 rfl hF (fun x4 hF => ?_)
  refine v_istore (pc := 34) (i := 4) [some (sr (some a0)), none, some (si a2), some (sr x1), some (si x4)] dX10_setRule_34 (by decide) rfl rfl ?_
  refine v_aload_n (pc := 36) (i := 3) dX10_setRule_36 rfl rfl ?_
  refine v_iload_n (pc := 37) (i := 2) dX10_setRule_37 rfl rfl ?_
  refine s_putI (pc := 38) dX10_setRule_38 flX10_162 (Or.inl rfl) rfl hF (fun h5 hF => ?_)
  refine v_aload_n (pc := 41) (i := 0) dX10_setRule_41 rfl rfl ?_
  refine s_getR (pc := 42) dX10_setRule_42 flX10_35 rfl hF (fun x6 hF => ?_)
  refine ch_V (pc := 45) gU (as := []) (st := []) (ci := 4) (k := 0) (n := 0) dX10_setRule_45 lkX10_149 caX5_refreshPins cvX5_refreshPins rfl (by decide) rfl (fun b Q1 hq => tX5_refreshPins b h5 Q1 hq) ⟨by decide, by decide⟩ (Nat.le_of_ble_eq_true rfl) rfl hF (fun x7 h8 hF => ?_)
  show gV G mX10_setRule 8 Q 48 [some (sr (some a0)), none, some (si a2), some (sr x1), some (si x4)] [] (0) (0) h8
  refine v_iload (pc := 48) (i := 4) dX10_setRule_48 rfl ?_
  exact v_iret (pc := 50) dX10_setRule_50 rfl rfl (okr hF fun q => q)
/-! BrailleDesk.setManner -/
def fX10_setManner (a0 : Nat) (a1 : Int32) (a2 : Int32) (h : hp) : Option ((Int32 ⊕ String) × hp) :=
  (oOb 9 (some a0) h).bind fun b =>
  oC (fX10_existing b a1 h) (fun E => (.inr E, h)) fun x1 =>
  if a2 < 0 then
  (some ((.inr "java/lang/IllegalArgumentException", h)))
  else
  if a2 ≤ (2 : Int32) then
  ((oGI 1 1 x1 h).bind fun x2 =>
  if x2 = (7 : Int32) then
  ((oGI 1 11 x1 h).bind fun x3 =>
  (oPI 1 11 x1 a2 h).bind fun h4 =>
  (oGR 9 2 (some a0) h4).bind fun x5 =>
  (oOb 5 x5 h4).bind fun b =>
  o2 (fX6_swallow b x1 h4) fun _ h7 =>
  some ((.inl x3, h7)))
  else
  some ((.inr "java/lang/IllegalStateException", h)))
  else
  some ((.inr "java/lang/IllegalArgumentException", h))
theorem tX10_setManner {G : gG} (a0 : Nat) (a1 : Int32) (a2 : Int32) (h : hp) (Q : hQ) (hF : okB (fX10_setManner a0 a1 a2 h) (pX gI Q)) : gS G mX10_setManner 7 2 12 [sr (some a0), si a1, si a2] h Q := by
  delta fX10_setManner at hF
  refine gS_at [some (sr (some a0)), some (si a1), some (si a2), none, none] pl_X10 rfl (Nat.le_of_ble_eq_true rfl) rfl ?_
  refine v_aload_n (pc := 0) (i := 0) dX10_setManner_0 rfl rfl ?_
  refine v_iload_n (pc := 1) (i := 1) dX10_setManner_1 rfl rfl ?_
  refine ct_V (pc := 2) gR (as := [si a1]) (st := []) (ci := 9) (k := 1) (n := 6) dX10_setManner_2 lkX10_71 caX10_existing cvX10_existing rfl (by decide) rfl (fun b Q1 hq => tX10_existing b a1 h Q1 hq) ⟨by decide, by decide⟩ (Nat.le_of_ble_eq_true rfl) rfl hF (fun E hp => hp) (fun x1 hF => ?_)
  show gV G mX10_setManner 7 Q 5 [some (sr (some a0)), some (si a1), some (si a2), none, none] [sr x1] (1) (6) h
  refine v_astore_n (pc := 5) (i := 3) [some (sr (some a0)), some (si a1), some (si a2), some (sr x1), none] dX10_setManner_5 rfl (by decide) rfl rfl ?_
  refine v_iload_n (pc := 6) (i := 2) dX10_setManner_6 rfl rfl ?_
  refine v_if_lt (pc := 7) 15 dX10_setManner_7 rfl (fun hc => ?_) (fun hc => ?_)
  · replace hF := (okB_if hF).1 hc
    exact v_throw (pc := 15) (k := 0) (n := 0) 22 dX10_setManner_15 dX10_setManner_18 dX10_setManner_19 dX10_setManner_21 dX10_setManner_24 rfl tfit_IllegalArgumentException tnames twX10_52_56 rfl (by decide) (Nat.le_of_ble_eq_true rfl) rfl (okr hF fun q => q)
  replace hF := (okB_if hF).2 hc
  refine v_iload_n (pc := 10) (i := 2) dX10_setManner_10 rfl rfl ?_
  refine v_iconst (pc := 11) (v := (2 : Int32)) dX10_setManner_11 rfl ?_
  refine v_icmp_le (pc := 12) 25 dX10_setManner_12 rfl (fun hc => ?_) (fun hc => ?_)
  · replace hF := (okB_if hF).1 hc
    refine v_aload_n (pc := 25) (i := 3) dX10_setManner_25 rfl rfl ?_
    refine s_getI (pc := 26) dX10_setManner_26 flX10_152 rfl hF (fun x2 hF => ?_)
    refine v_bipush (pc := 29) (v := (7 : Int32)) dX10_setManner_29 rfl ?_
    refine v_icmp_eq (pc := 31) 44 dX10_setManner_31 rfl (fun hc => ?_) (fun hc => ?_)
    · replace hF := (okB_if hF).1 hc
      refine v_aload_n (pc := 44) (i := 3) dX10_setManner_44 rfl rfl ?_
      refine s_getI (pc := 45) dX10_setManner_45 flX10_169 rfl hF (fun x3 hF => ?_)
      refine v_istore (pc := 48) (i := 4) [some (sr (some a0)), some (si a1), some (si a2), some (sr x1), some (si x3)] dX10_setManner_48 (by decide) rfl rfl ?_
      refine v_aload_n (pc := 50) (i := 3) dX10_setManner_50 rfl rfl ?_
      refine v_iload_n (pc := 51) (i := 2) dX10_setManner_51 rfl rfl ?_
      refine s_putI (pc := 52) dX10_setManner_52 flX10_169 (Or.inl rfl) rfl hF (fun h4 hF => ?_)
      refine v_aload_n (pc := 55) (i := 0) dX10_setManner_55 rfl rfl ?_
      refine s_getR (pc := 56) dX10_setManner_56 flX10_28 rfl hF (fun x5 hF => ?_)
      refine v_aload_n (pc := 59) (i := 3) dX10_setManner_59 rfl rfl ?_
      refine ch_V (pc := 60) gU (as := [sr x1]) (st := []) (ci := 5) (k := 1) (n := 6) dX10_setManner_60 lkX10_172 caX6_swallow cvX6_swallow rfl (by decide) rfl (fun b Q1 hq => tX6_swallow b x1 h4 Q1 hq) ⟨by decide, by decide⟩ (Nat.le_of_ble_eq_true rfl) rfl hF (fun x6 h7 hF => ?_)
      show gV G mX10_setManner 7 Q 63 [some (sr (some a0)), some (si a1), some (si a2), some (sr x1), some (si x3)] [] (1) (6) h7
      refine v_iload (pc := 63) (i := 4) dX10_setManner_63 rfl ?_
      exact v_iret (pc := 65) dX10_setManner_65 rfl rfl (okr hF fun q => q)
    replace hF := (okB_if hF).2 hc
    exact v_throw (pc := 34) (k := 0) (n := 0) 23 dX10_setManner_34 dX10_setManner_37 dX10_setManner_38 dX10_setManner_40 dX10_setManner_43 rfl tfit_IllegalStateException tnames twX10_63_67 rfl (by decide) (Nat.le_of_ble_eq_true rfl) rfl (okr hF fun q => q)
  replace hF := (okB_if hF).2 hc
  exact v_throw (pc := 15) (k := 0) (n := 0) 22 dX10_setManner_15 dX10_setManner_18 dX10_setManner_19 dX10_setManner_21 dX10_setManner_24 rfl tfit_IllegalArgumentException tnames twX10_52_56 rfl (by decide) (Nat.le_of_ble_eq_true rfl) rfl (okr hF fun q => q)
/-! BrailleDesk.elements -/
def fX10_elements (a0 : Nat) (h : hp) : Option Int32 :=
  (oGR 9 0 (some a0) h).bind fun x1 =>
  (oGI 6 3 x1 h).bind fun x2 =>
  some (x2)
theorem tX10_elements {G : gG} (a0 : Nat) (h : hp) (Q : hQ) (hF : okB (fX10_elements a0 h) (pP gI Q h)) : gS G mX10_elements 0 0 0 [sr (some a0)] h Q := by
  delta fX10_elements at hF
  refine gS_at [some (sr (some a0))] pl_X10 rfl (Nat.le_of_ble_eq_true rfl) rfl ?_
  refine v_aload_n (pc := 0) (i := 0) dX10_elements_0 rfl rfl ?_
  refine s_getR (pc := 1) dX10_elements_1 flX10_10 rfl hF (fun x1 hF => ?_)
  refine s_getI (pc := 4) dX10_elements_4 flX10_175 rfl hF (fun x2 hF => ?_)
  exact v_iret (pc := 7) dX10_elements_7 rfl rfl (okr hF fun q => q)
/-! BrailleDesk.kind -/
def fX10_kind (a0 : Nat) (a1 : Int32) (h : hp) : Option (Int32 ⊕ String) :=
  (oOb 9 (some a0) h).bind fun b =>
  oC (fX10_existing b a1 h) (fun E => .inr E) fun x1 =>
  (oGI 1 1 x1 h).bind fun x2 =>
  some (.inl x2)
theorem tX10_kind {G : gG} (a0 : Nat) (a1 : Int32) (h : hp) (Q : hQ) (hF : okB (fX10_kind a0 a1 h) (pC gI Q h)) : gS G mX10_kind 7 1 6 [sr (some a0), si a1] h Q := by
  delta fX10_kind at hF
  refine gS_at [some (sr (some a0)), some (si a1)] pl_X10 rfl (Nat.le_of_ble_eq_true rfl) rfl ?_
  refine v_aload_n (pc := 0) (i := 0) dX10_kind_0 rfl rfl ?_
  refine v_iload_n (pc := 1) (i := 1) dX10_kind_1 rfl rfl ?_
  refine ct_V (pc := 2) gR (as := [si a1]) (st := []) (ci := 9) (k := 0) (n := 0) dX10_kind_2 lkX10_71 caX10_existing cvX10_existing rfl (by decide) rfl (fun b Q1 hq => tX10_existing b a1 h Q1 hq) ⟨by decide, by decide⟩ (Nat.le_of_ble_eq_true rfl) rfl hF (fun E hp => hp) (fun x1 hF => ?_)
  show gV G mX10_kind 7 Q 5 [some (sr (some a0)), some (si a1)] [sr x1] (0) (0) h
  refine s_getI (pc := 5) dX10_kind_5 flX10_152 rfl hF (fun x2 hF => ?_)
  exact v_iret (pc := 8) dX10_kind_8 rfl rfl (okr hF fun q => q)
/-! BrailleDesk.parent -/
def fX10_parent (a0 : Nat) (a1 : Int32) (h : hp) : Option (Int32 ⊕ String) :=
  (oOb 9 (some a0) h).bind fun b =>
  oC (fX10_existing b a1 h) (fun E => .inr E) fun x1 =>
  (oGR 1 2 x1 h).bind fun x2 =>
  if x2 = none then
  (some (.inl (-1 : Int32)))
  else
  (oGI 1 0 x2 h).bind fun x3 =>
  some (.inl x3)
theorem tX10_parent {G : gG} (a0 : Nat) (a1 : Int32) (h : hp) (Q : hQ) (hF : okB (fX10_parent a0 a1 h) (pC gI Q h)) : gS G mX10_parent 7 1 6 [sr (some a0), si a1] h Q := by
  delta fX10_parent at hF
  refine gS_at [some (sr (some a0)), some (si a1), none] pl_X10 rfl (Nat.le_of_ble_eq_true rfl) rfl ?_
  refine v_aload_n (pc := 0) (i := 0) dX10_parent_0 rfl rfl ?_
  refine v_iload_n (pc := 1) (i := 1) dX10_parent_1 rfl rfl ?_
  refine ct_V (pc := 2) gR (as := [si a1]) (st := []) (ci := 9) (k := 0) (n := 0) dX10_parent_2 lkX10_71 caX10_existing cvX10_existing rfl (by decide) rfl (fun b Q1 hq => tX10_existing b a1 h Q1 hq) ⟨by decide, by decide⟩ (Nat.le_of_ble_eq_true rfl) rfl hF (fun E hp => hp) (fun x1 hF => ?_)
  show gV G mX10_parent 7 Q 5 [some (sr (some a0)), some (si a1), none] [sr x1] (0) (0) h
  refine s_getR (pc := 5) dX10_parent_5 flX10_178 rfl hF (fun x2 hF => ?_)
  refine v_astore_n (pc := 8) (i := 2) [some (sr (some a0)), some (si a1), some (sr x2)] dX10_parent_8 rfl (by decide) rfl rfl ?_
  refine v_aload_n (pc := 9) (i := 2) dX10_parent_9 rfl rfl ?_
  refine s_ifnonnull (pc := 10) 17 dX10_parent_10 rfl hF (fun hF => ?_) (fun hF => ?_)
  · refine v_aload_n (pc := 17) (i := 2) dX10_parent_17 rfl rfl ?_
    refine s_getI (pc := 18) dX10_parent_18 flX10_103 rfl hF (fun x3 hF => ?_)
    exact v_iret (pc := 21) dX10_parent_21 rfl rfl (okr hF fun q => q)
  refine v_iconst (pc := 13) (v := (-1 : Int32)) dX10_parent_13 rfl ?_
  refine v_goto (pc := 14) 21 dX10_parent_14 rfl ?_
  exact v_iret (pc := 21) dX10_parent_21 rfl rfl (okr hF fun q => q)
/-! BrailleDesk.children -/
def fX10_children (a0 : Nat) (a1 : Int32) (h : hp) : Option (Int32 ⊕ String) :=
  (oOb 9 (some a0) h).bind fun b =>
  oC (fX10_existing b a1 h) (fun E => .inr E) fun x1 =>
  (oOb 1 x1 h).bind fun b =>
  (fX2_size b h).bind fun x2 =>
  some (.inl x2)
theorem tX10_children {G : gG} (a0 : Nat) (a1 : Int32) (h : hp) (Q : hQ) (hF : okB (fX10_children a0 a1 h) (pC gI Q h)) : gS G mX10_children 7 1 6 [sr (some a0), si a1] h Q := by
  delta fX10_children at hF
  refine gS_at [some (sr (some a0)), some (si a1)] pl_X10 rfl (Nat.le_of_ble_eq_true rfl) rfl ?_
  refine v_aload_n (pc := 0) (i := 0) dX10_children_0 rfl rfl ?_
  refine v_iload_n (pc := 1) (i := 1) dX10_children_1 rfl rfl ?_
  refine ct_V (pc := 2) gR (as := [si a1]) (st := []) (ci := 9) (k := 0) (n := 0) dX10_children_2 lkX10_71 caX10_existing cvX10_existing rfl (by decide) rfl (fun b Q1 hq => tX10_existing b a1 h Q1 hq) ⟨by decide, by decide⟩ (Nat.le_of_ble_eq_true rfl) rfl hF (fun E hp => hp) (fun x1 hF => ?_)
  show gV G mX10_children 7 Q 5 [some (sr (some a0)), some (si a1)] [sr x1] (0) (0) h
  refine cp_V (pc := 5) gI (as := []) (st := []) (ci := 1) (k := 0) (n := 0) dX10_children_5 lkX10_75 caX2_size cvX2_size rfl (by decide) rfl (fun b Q1 hq => tX2_size b h Q1 hq) ⟨by decide, by decide⟩ (Nat.le_of_ble_eq_true rfl) rfl hF (fun x2 hF => ?_)
  show gV G mX10_children 7 Q 8 [some (sr (some a0)), some (si a1)] [si x2] (0) (0) h
  exact v_iret (pc := 8) dX10_children_8 rfl rfl (okr hF fun q => q)
/-! BrailleDesk.childAt -/
def fX10_childAt (a0 : Nat) (a1 : Int32) (a2 : Int32) (h : hp) : Option (Int32 ⊕ String) :=
  (oOb 9 (some a0) h).bind fun b =>
  oC (fX10_existing b a1 h) (fun E => .inr E) fun x1 =>
  (oOb 1 x1 h).bind fun b =>
  (fX2_child b a2 h).bind fun x2 =>
  if x2 = none then
  (some (.inr "java/lang/IndexOutOfBoundsException"))
  else
  (oGI 1 0 x2 h).bind fun x3 =>
  some (.inl x3)
theorem tX10_childAt {G : gG} (a0 : Nat) (a1 : Int32) (a2 : Int32) (h : hp) (Q : hQ) (hF : okB (fX10_childAt a0 a1 a2 h) (pC gI Q h)) : gS G mX10_childAt 7 2 12 [sr (some a0), si a1, si a2] h Q := by
  delta fX10_childAt at hF
  refine gS_at [some (sr (some a0)), some (si a1), some (si a2), none] pl_X10 rfl (Nat.le_of_ble_eq_true rfl) rfl ?_
  refine v_aload_n (pc := 0) (i := 0) dX10_childAt_0 rfl rfl ?_
  refine v_iload_n (pc := 1) (i := 1) dX10_childAt_1 rfl rfl ?_
  refine ct_V (pc := 2) gR (as := [si a1]) (st := []) (ci := 9) (k := 1) (n := 6) dX10_childAt_2 lkX10_71 caX10_existing cvX10_existing rfl (by decide) rfl (fun b Q1 hq => tX10_existing b a1 h Q1 hq) ⟨by decide, by decide⟩ (Nat.le_of_ble_eq_true rfl) rfl hF (fun E hp => hp) (fun x1 hF => ?_)
  show gV G mX10_childAt 7 Q 5 [some (sr (some a0)), some (si a1), some (si a2), none] [sr x1] (1) (6) h
  refine v_iload_n (pc := 5) (i := 2) dX10_childAt_5 rfl rfl ?_
  refine cp_V (pc := 6) gR (as := [si a2]) (st := []) (ci := 1) (k := 1) (n := 6) dX10_childAt_6 lkX10_182 caX2_child cvX2_child rfl (by decide) rfl (fun b Q1 hq => tX2_child b a2 h Q1 hq) ⟨by decide, by decide⟩ (Nat.le_of_ble_eq_true rfl) rfl hF (fun x2 hF => ?_)
  show gV G mX10_childAt 7 Q 9 [some (sr (some a0)), some (si a1), some (si a2), none] [sr x2] (1) (6) h
  refine v_astore_n (pc := 9) (i := 3) [some (sr (some a0)), some (si a1), some (si a2), some (sr x2)] dX10_childAt_9 rfl (by decide) rfl rfl ?_
  refine v_aload_n (pc := 10) (i := 3) dX10_childAt_10 rfl rfl ?_
  refine s_ifnonnull (pc := 11) 24 dX10_childAt_11 rfl hF (fun hF => ?_) (fun hF => ?_)
  · refine v_aload_n (pc := 24) (i := 3) dX10_childAt_24 rfl rfl ?_
    refine s_getI (pc := 25) dX10_childAt_25 flX10_103 rfl hF (fun x3 hF => ?_)
    exact v_iret (pc := 28) dX10_childAt_28 rfl rfl (okr hF fun q => q)
  exact v_throw (pc := 14) (k := 0) (n := 0) 24 dX10_childAt_14 dX10_childAt_17 dX10_childAt_18 dX10_childAt_20 dX10_childAt_23 rfl tfit_IndexOutOfBoundsException tnames twX10_185_189 rfl (by decide) (Nat.le_of_ble_eq_true rfl) rfl (okr hF fun q => q)
/-! BrailleDesk.nameLength -/
def fX10_nameLength (a0 : Nat) (a1 : Int32) (h : hp) : Option (Int32 ⊕ String) :=
  (oOb 9 (some a0) h).bind fun b =>
  oC (fX10_existing b a1 h) (fun E => .inr E) fun x1 =>
  (oGR 1 5 x1 h).bind fun x2 =>
  (oOb 0 x2 h).bind fun b =>
  (fX1_size b h).bind fun x3 =>
  some (.inl x3)
theorem tX10_nameLength {G : gG} (a0 : Nat) (a1 : Int32) (h : hp) (Q : hQ) (hF : okB (fX10_nameLength a0 a1 h) (pC gI Q h)) : gS G mX10_nameLength 7 1 6 [sr (some a0), si a1] h Q := by
  delta fX10_nameLength at hF
  refine gS_at [some (sr (some a0)), some (si a1)] pl_X10 rfl (Nat.le_of_ble_eq_true rfl) rfl ?_
  refine v_aload_n (pc := 0) (i := 0) dX10_nameLength_0 rfl rfl ?_
  refine v_iload_n (pc := 1) (i := 1) dX10_nameLength_1 rfl rfl ?_
  refine ct_V (pc := 2) gR (as := [si a1]) (st := []) (ci := 9) (k := 0) (n := 0) dX10_nameLength_2 lkX10_71 caX10_existing cvX10_existing rfl (by decide) rfl (fun b Q1 hq => tX10_existing b a1 h Q1 hq) ⟨by decide, by decide⟩ (Nat.le_of_ble_eq_true rfl) rfl hF (fun E hp => hp) (fun x1 hF => ?_)
  show gV G mX10_nameLength 7 Q 5 [some (sr (some a0)), some (si a1)] [sr x1] (0) (0) h
  refine s_getR (pc := 5) dX10_nameLength_5 flX10_138 rfl hF (fun x2 hF => ?_)
  refine cp_V (pc := 8) gI (as := []) (st := []) (ci := 0) (k := 0) (n := 0) dX10_nameLength_8 lkX10_59 caX1_size cvX1_size rfl (by decide) rfl (fun b Q1 hq => tX1_size b h Q1 hq) ⟨by decide, by decide⟩ (Nat.le_of_ble_eq_true rfl) rfl hF (fun x3 hF => ?_)
  show gV G mX10_nameLength 7 Q 11 [some (sr (some a0)), some (si a1)] [si x3] (0) (0) h
  exact v_iret (pc := 11) dX10_nameLength_11 rfl rfl (okr hF fun q => q)
/-! BrailleDesk.codeAt -/
def fX10_codeAt (a0 : Option Nat) (a1 : Int32) (h : hp) : Option (Int32 ⊕ String) :=
  if a1 < 0 then
  (some (.inr "java/lang/IndexOutOfBoundsException"))
  else
  (oOb 0 a0 h).bind fun b =>
  (fX1_size b h).bind fun x1 =>
  if a1 < x1 then
  ((oOb 0 a0 h).bind fun b =>
  (fX1_at b a1 h).bind fun x2 =>
  some (.inl x2))
  else
  some (.inr "java/lang/IndexOutOfBoundsException")
theorem tX10_codeAt {G : gG} (a0 : Option Nat) (a1 : Int32) (h : hp) (Q : hQ) (hF : okB (fX10_codeAt a0 a1 h) (pC gI Q h)) : gS G mX10_codeAt 6 1 6 [sr a0, si a1] h Q := by
  delta fX10_codeAt at hF
  refine gS_at [some (sr a0), some (si a1)] pl_X10 rfl (Nat.le_of_ble_eq_true rfl) rfl ?_
  refine v_iload_n (pc := 0) (i := 1) dX10_codeAt_0 rfl rfl ?_
  refine v_if_lt (pc := 1) 12 dX10_codeAt_1 rfl (fun hc => ?_) (fun hc => ?_)
  · replace hF := (okB_if hF).1 hc
    exact v_throwW (pc := 12) (k := 0) (n := 0) 25 dX10_codeAt_12 dX10_codeAt_15 dX10_codeAt_16 dX10_codeAt_19 dX10_codeAt_22 rfl tfit_IndexOutOfBoundsException tnames twX10_185_189 rfl (by decide) (Nat.le_of_ble_eq_true rfl) rfl (okr hF fun q => q)
  replace hF := (okB_if hF).2 hc
  refine v_iload_n (pc := 4) (i := 1) dX10_codeAt_4 rfl rfl ?_
  refine v_aload_n (pc := 5) (i := 0) dX10_codeAt_5 rfl rfl ?_
  refine cp_V (pc := 6) gI (as := []) (st := [si a1]) (ci := 0) (k := 1) (n := 6) dX10_codeAt_6 lkX10_59 caX1_size cvX1_size rfl (by decide) rfl (fun b Q1 hq => tX1_size b h Q1 hq) ⟨by decide, by decide⟩ (Nat.le_of_ble_eq_true rfl) rfl hF (fun x1 hF => ?_)
  show gV G mX10_codeAt 6 Q 9 [some (sr a0), some (si a1)] [si x1, si a1] (1) (6) h
  refine v_icmp_lt (pc := 9) 23 dX10_codeAt_9 rfl (fun hc => ?_) (fun hc => ?_)
  · replace hF := (okB_if hF).1 hc
    refine v_aload_n (pc := 23) (i := 0) dX10_codeAt_23 rfl rfl ?_
    refine v_iload_n (pc := 24) (i := 1) dX10_codeAt_24 rfl rfl ?_
    refine cp_V (pc := 25) gI (as := [si a1]) (st := []) (ci := 0) (k := 1) (n := 6) dX10_codeAt_25 lkX10_328 caX1_at cvX1_at rfl (by decide) rfl (fun b Q1 hq => tX1_at b a1 h Q1 hq) ⟨by decide, by decide⟩ (Nat.le_of_ble_eq_true rfl) rfl hF (fun x2 hF => ?_)
    show gV G mX10_codeAt 6 Q 28 [some (sr a0), some (si a1)] [si x2] (1) (6) h
    exact v_iret (pc := 28) dX10_codeAt_28 rfl rfl (okr hF fun q => q)
  replace hF := (okB_if hF).2 hc
  exact v_throwW (pc := 12) (k := 0) (n := 0) 25 dX10_codeAt_12 dX10_codeAt_15 dX10_codeAt_16 dX10_codeAt_19 dX10_codeAt_22 rfl tfit_IndexOutOfBoundsException tnames twX10_185_189 rfl (by decide) (Nat.le_of_ble_eq_true rfl) rfl (okr hF fun q => q)
