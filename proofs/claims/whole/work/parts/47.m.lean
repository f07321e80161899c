/-! ===== methods: their functions and rows ===== -/
theorem dX11_setManner_0 : decode cX11_setManner 0 = .ok (.aload_n 0, 1) := by decide +kernel
theorem dX11_setManner_1 : decode cX11_setManner 1 = .ok (.aload_n 0, 1) := by decide +kernel
theorem dX11_setManner_2 : decode cX11_setManner 2 = .ok (.iload_n 1, 1) := by decide +kernel
theorem dX11_setManner_3 : decode cX11_setManner 3 = .ok (.invokevirtual 118, 3) := by decide +kernel
theorem dX11_setManner_6 : decode cX11_setManner 6 = .ok (.ifCond .ne 7, 3) := by decide +kernel
theorem dX11_setManner_9 : decode cX11_setManner 9 = .ok (.iconst 1, 1) := by decide +kernel
theorem dX11_setManner_10 : decode cX11_setManner 10 = .ok (.goto 32, 3) := by decide +kernel
theorem dX11_setManner_13 : decode cX11_setManner 13 = .ok (.iload_n 2, 1) := by decide +kernel
theorem dX11_setManner_14 : decode cX11_setManner 14 = .ok (.iconst 0, 1) := by decide +kernel
theorem dX11_setManner_15 : decode cX11_setManner 15 = .ok (.iconst 2, 1) := by decide +kernel
theorem dX11_setManner_16 : decode cX11_setManner 16 = .ok (.invokestatic 114, 3) := by decide +kernel
theorem dX11_setManner_19 : decode cX11_setManner 19 = .ok (.ifCond .ne 7, 3) := by decide +kernel
theorem dX11_setManner_22 : decode cX11_setManner 22 = .ok (.iconst 2, 1) := by decide +kernel
theorem dX11_setManner_23 : decode cX11_setManner 23 = .ok (.goto 19, 3) := by decide +kernel
theorem dX11_setManner_26 : decode cX11_setManner 26 = .ok (.aload_n 0, 1) := by decide +kernel
theorem dX11_setManner_27 : decode cX11_setManner 27 = .ok (.getfield 13, 3) := by decide +kernel
theorem dX11_setManner_30 : decode cX11_setManner 30 = .ok (.iload_n 1, 1) := by decide +kernel
theorem dX11_setManner_31 : decode cX11_setManner 31 = .ok (.iaload, 1) := by decide +kernel
theorem dX11_setManner_32 : decode cX11_setManner 32 = .ok (.bipush 7, 2) := by decide +kernel
theorem dX11_setManner_34 : decode cX11_setManner 34 = .ok (.if_icmp .eq 7, 3) := by decide +kernel
theorem dX11_setManner_37 : decode cX11_setManner 37 = .ok (.iconst 3, 1) := by decide +kernel
theorem dX11_setManner_38 : decode cX11_setManner 38 = .ok (.goto 4, 3) := by decide +kernel
theorem dX11_setManner_41 : decode cX11_setManner 41 = .ok (.iconst 0, 1) := by decide +kernel
theorem dX11_setManner_42 : decode cX11_setManner 42 = .ok (.putfield 111, 3) := by decide +kernel
theorem dX11_setManner_45 : decode cX11_setManner 45 = .ok (.aload_n 0, 1) := by decide +kernel
theorem dX11_setManner_46 : decode cX11_setManner 46 = .ok (.getfield 111, 3) := by decide +kernel
theorem dX11_setManner_49 : decode cX11_setManner 49 = .ok (.ifCond .le 5, 3) := by decide +kernel
theorem dX11_setManner_52 : decode cX11_setManner 52 = .ok (.iconst 0, 1) := by decide +kernel
theorem dX11_setManner_53 : decode cX11_setManner 53 = .ok (.ireturn, 1) := by decide +kernel
theorem dX11_setManner_54 : decode cX11_setManner 54 = .ok (.aload_n 0, 1) := by decide +kernel
theorem dX11_setManner_55 : decode cX11_setManner 55 = .ok (.getfield 50, 3) := by decide +kernel
theorem dX11_setManner_58 : decode cX11_setManner 58 = .ok (.iload_n 1, 1) := by decide +kernel
theorem dX11_setManner_59 : decode cX11_setManner 59 = .ok (.iaload, 1) := by decide +kernel
theorem dX11_setManner_60 : decode cX11_setManner 60 = .ok (.istore_n 3, 1) := by decide +kernel
theorem dX11_setManner_61 : decode cX11_setManner 61 = .ok (.aload_n 0, 1) := by decide +kernel
theorem dX11_setManner_62 : decode cX11_setManner 62 = .ok (.getfield 50, 3) := by decide +kernel
theorem dX11_setManner_65 : decode cX11_setManner 65 = .ok (.iload_n 1, 1) := by decide +kernel
theorem dX11_setManner_66 : decode cX11_setManner 66 = .ok (.iload_n 2, 1) := by decide +kernel
theorem dX11_setManner_67 : decode cX11_setManner 67 = .ok (.iastore, 1) := by decide +kernel
theorem dX11_setManner_68 : decode cX11_setManner 68 = .ok (.aload_n 0, 1) := by decide +kernel
theorem dX11_setManner_69 : decode cX11_setManner 69 = .ok (.iload_n 1, 1) := by decide +kernel
theorem dX11_setManner_70 : decode cX11_setManner 70 = .ok (.invokevirtual 218, 3) := by decide +kernel
theorem dX11_setManner_73 : decode cX11_setManner 73 = .ok (.iload_n 3, 1) := by decide +kernel
theorem dX11_setManner_74 : decode cX11_setManner 74 = .ok (.ireturn, 1) := by decide +kernel
theorem dX11_elements_0 : decode cX11_elements 0 = .ok (.aload_n 0, 1) := by decide +kernel
theorem dX11_elements_1 : decode cX11_elements 1 = .ok (.iconst 0, 1) := by decide +kernel
theorem dX11_elements_2 : decode cX11_elements 2 = .ok (.putfield 111, 3) := by decide +kernel
theorem dX11_elements_5 : decode cX11_elements 5 = .ok (.iconst 0, 1) := by decide +kernel
theorem dX11_elements_6 : decode cX11_elements 6 = .ok (.istore_n 1, 1) := by decide +kernel
theorem dX11_elements_7 : decode cX11_elements 7 = .ok (.iconst 0, 1) := by decide +kernel
theorem dX11_elements_8 : decode cX11_elements 8 = .ok (.istore_n 2, 1) := by decide +kernel
theorem dX11_elements_9 : decode cX11_elements 9 = .ok (.iload_n 2, 1) := by decide +kernel
theorem dX11_elements_10 : decode cX11_elements 10 = .ok (.aload_n 0, 1) := by decide +kernel
theorem dX11_elements_11 : decode cX11_elements 11 = .ok (.getfield 101, 3) := by decide +kernel
theorem dX11_elements_14 : decode cX11_elements 14 = .ok (.if_icmp .ge 26, 3) := by decide +kernel
theorem dX11_elements_17 : decode cX11_elements 17 = .ok (.iload_n 1, 1) := by decide +kernel
theorem dX11_elements_18 : decode cX11_elements 18 = .ok (.aload_n 0, 1) := by decide +kernel
theorem dX11_elements_19 : decode cX11_elements 19 = .ok (.getfield 7, 3) := by decide +kernel
theorem dX11_elements_22 : decode cX11_elements 22 = .ok (.iload_n 2, 1) := by decide +kernel
theorem dX11_elements_23 : decode cX11_elements 23 = .ok (.baload, 1) := by decide +kernel
theorem dX11_elements_24 : decode cX11_elements 24 = .ok (.ifCond .eq 7, 3) := by decide +kernel
theorem dX11_elements_27 : decode cX11_elements 27 = .ok (.iconst 1, 1) := by decide +kernel
theorem dX11_elements_28 : decode cX11_elements 28 = .ok (.goto 4, 3) := by decide +kernel
theorem dX11_elements_31 : decode cX11_elements 31 = .ok (.iconst 0, 1) := by decide +kernel
theorem dX11_elements_32 : decode cX11_elements 32 = .ok (.iadd, 1) := by decide +kernel
theorem dX11_elements_33 : decode cX11_elements 33 = .ok (.istore_n 1, 1) := by decide +kernel
theorem dX11_elements_34 : decode cX11_elements 34 = .ok (.iinc 2 1, 3) := by decide +kernel
theorem dX11_elements_37 : decode cX11_elements 37 = .ok (.goto (-28), 3) := by decide +kernel
theorem dX11_elements_40 : decode cX11_elements 40 = .ok (.iload_n 1, 1) := by decide +kernel
theorem dX11_elements_41 : decode cX11_elements 41 = .ok (.ireturn, 1) := by decide +kernel
theorem dX11_kind_0 : decode cX11_kind 0 = .ok (.aload_n 0, 1) := by decide +kernel
theorem dX11_kind_1 : decode cX11_kind 1 = .ok (.iload_n 1, 1) := by decide +kernel
theorem dX11_kind_2 : decode cX11_kind 2 = .ok (.invokevirtual 315, 3) := by decide +kernel
theorem dX11_kind_5 : decode cX11_kind 5 = .ok (.ifCond .eq 12, 3) := by decide +kernel
theorem dX11_kind_8 : decode cX11_kind 8 = .ok (.aload_n 0, 1) := by decide +kernel
theorem dX11_kind_9 : decode cX11_kind 9 = .ok (.getfield 13, 3) := by decide +kernel
theorem dX11_kind_12 : decode cX11_kind 12 = .ok (.iload_n 1, 1) := by decide +kernel
theorem dX11_kind_13 : decode cX11_kind 13 = .ok (.iaload, 1) := by decide +kernel
theorem dX11_kind_14 : decode cX11_kind 14 = .ok (.goto 4, 3) := by decide +kernel
theorem dX11_kind_17 : decode cX11_kind 17 = .ok (.iconst 0, 1) := by decide +kernel
theorem dX11_kind_18 : decode cX11_kind 18 = .ok (.ireturn, 1) := by decide +kernel
theorem dX11_parent_0 : decode cX11_parent 0 = .ok (.aload_n 0, 1) := by decide +kernel
theorem dX11_parent_1 : decode cX11_parent 1 = .ok (.iload_n 1, 1) := by decide +kernel
theorem dX11_parent_2 : decode cX11_parent 2 = .ok (.invokevirtual 315, 3) := by decide +kernel
theorem dX11_parent_5 : decode cX11_parent 5 = .ok (.ifCond .eq 12, 3) := by decide +kernel
theorem dX11_parent_8 : decode cX11_parent 8 = .ok (.aload_n 0, 1) := by decide +kernel
theorem dX11_parent_9 : decode cX11_parent 9 = .ok (.getfield 17, 3) := by decide +kernel
theorem dX11_parent_12 : decode cX11_parent 12 = .ok (.iload_n 1, 1) := by decide +kernel
theorem dX11_parent_13 : decode cX11_parent 13 = .ok (.iaload, 1) := by decide +kernel
theorem dX11_parent_14 : decode cX11_parent 14 = .ok (.goto 4, 3) := by decide +kernel
theorem dX11_parent_17 : decode cX11_parent 17 = .ok (.iconst 0, 1) := by decide +kernel
theorem dX11_parent_18 : decode cX11_parent 18 = .ok (.ireturn, 1) := by decide +kernel
theorem dX11_children_0 : decode cX11_children 0 = .ok (.aload_n 0, 1) := by decide +kernel
theorem dX11_children_1 : decode cX11_children 1 = .ok (.iload_n 1, 1) := by decide +kernel
theorem dX11_children_2 : decode cX11_children 2 = .ok (.invokevirtual 315, 3) := by decide +kernel
theorem dX11_children_5 : decode cX11_children 5 = .ok (.ifCond .eq 12, 3) := by decide +kernel
theorem dX11_children_8 : decode cX11_children 8 = .ok (.aload_n 0, 1) := by decide +kernel
theorem dX11_children_9 : decode cX11_children 9 = .ok (.getfield 23, 3) := by decide +kernel
theorem dX11_children_12 : decode cX11_children 12 = .ok (.iload_n 1, 1) := by decide +kernel
theorem dX11_children_13 : decode cX11_children 13 = .ok (.iaload, 1) := by decide +kernel
theorem dX11_children_14 : decode cX11_children 14 = .ok (.goto 4, 3) := by decide +kernel
theorem dX11_children_17 : decode cX11_children 17 = .ok (.iconst 0, 1) := by decide +kernel
theorem dX11_children_18 : decode cX11_children 18 = .ok (.ireturn, 1) := by decide +kernel
theorem dX11_childAt_0 : decode cX11_childAt 0 = .ok (.aload_n 0, 1) := by decide +kernel
theorem dX11_childAt_1 : decode cX11_childAt 1 = .ok (.aload_n 0, 1) := by decide +kernel
theorem dX11_childAt_2 : decode cX11_childAt 2 = .ok (.iload_n 1, 1) := by decide +kernel
theorem dX11_childAt_3 : decode cX11_childAt 3 = .ok (.invokevirtual 118, 3) := by decide +kernel
theorem dX11_childAt_6 : decode cX11_childAt 6 = .ok (.ifCond .eq 23, 3) := by decide +kernel
theorem dX11_childAt_9 : decode cX11_childAt 9 = .ok (.iload_n 2, 1) := by decide +kernel
theorem dX11_childAt_10 : decode cX11_childAt 10 = .ok (.iconst 0, 1) := by decide +kernel
theorem dX11_childAt_11 : decode cX11_childAt 11 = .ok (.aload_n 0, 1) := by decide +kernel
theorem dX11_childAt_12 : decode cX11_childAt 12 = .ok (.getfield 23, 3) := by decide +kernel
theorem dX11_childAt_15 : decode cX11_childAt 15 = .ok (.iload_n 1, 1) := by decide +kernel
theorem dX11_childAt_16 : decode cX11_childAt 16 = .ok (.iaload, 1) := by decide +kernel
theorem dX11_childAt_17 : decode cX11_childAt 17 = .ok (.iconst 1, 1) := by decide +kernel
theorem dX11_childAt_18 : decode cX11_childAt 18 = .ok (.isub, 1) := by decide +kernel
theorem dX11_childAt_19 : decode cX11_childAt 19 = .ok (.invokestatic 114, 3) := by decide +kernel
theorem dX11_childAt_22 : decode cX11_childAt 22 = .ok (.ifCond .eq 7, 3) := by decide +kernel
theorem dX11_childAt_25 : decode cX11_childAt 25 = .ok (.iconst 0, 1) := by decide +kernel
theorem dX11_childAt_26 : decode cX11_childAt 26 = .ok (.goto 4, 3) := by decide +kernel
theorem dX11_childAt_29 : decode cX11_childAt 29 = .ok (.iconst 1, 1) := by decide +kernel
theorem dX11_childAt_30 : decode cX11_childAt 30 = .ok (.putfield 111, 3) := by decide +kernel
theorem dX11_childAt_33 : decode cX11_childAt 33 = .ok (.aload_n 0, 1) := by decide +kernel
theorem dX11_childAt_34 : decode cX11_childAt 34 = .ok (.getfield 111, 3) := by decide +kernel
theorem dX11_childAt_37 : decode cX11_childAt 37 = .ok (.ifCond .ne 17, 3) := by decide +kernel
theorem dX11_childAt_40 : decode cX11_childAt 40 = .ok (.aload_n 0, 1) := by decide +kernel
theorem dX11_childAt_41 : decode cX11_childAt 41 = .ok (.getfield 20, 3) := by decide +kernel
theorem dX11_childAt_44 : decode cX11_childAt 44 = .ok (.bipush 10, 2) := by decide +kernel
theorem dX11_childAt_46 : decode cX11_childAt 46 = .ok (.iload_n 1, 1) := by decide +kernel
theorem dX11_childAt_47 : decode cX11_childAt 47 = .ok (.imul, 1) := by decide +kernel
theorem dX11_childAt_48 : decode cX11_childAt 48 = .ok (.iload_n 2, 1) := by decide +kernel
theorem dX11_childAt_49 : decode cX11_childAt 49 = .ok (.iadd, 1) := by decide +kernel
theorem dX11_childAt_50 : decode cX11_childAt 50 = .ok (.iaload, 1) := by decide +kernel
theorem dX11_childAt_51 : decode cX11_childAt 51 = .ok (.goto 4, 3) := by decide +kernel
theorem dX11_childAt_54 : decode cX11_childAt 54 = .ok (.iconst 0, 1) := by decide +kernel
theorem dX11_childAt_55 : decode cX11_childAt 55 = .ok (.ireturn, 1) := by decide +kernel
theorem dX11_nameLength_0 : decode cX11_nameLength 0 = .ok (.aload_n 0, 1) := by decide +kernel
theorem dX11_nameLength_1 : decode cX11_nameLength 1 = .ok (.iload_n 1, 1) := by decide +kernel
theorem dX11_nameLength_2 : decode cX11_nameLength 2 = .ok (.invokevirtual 315, 3) := by decide +kernel
theorem dX11_nameLength_5 : decode cX11_nameLength 5 = .ok (.ifCond .eq 12, 3) := by decide +kernel
theorem dX11_nameLength_8 : decode cX11_nameLength 8 = .ok (.aload_n 0, 1) := by decide +kernel
theorem dX11_nameLength_9 : decode cX11_nameLength 9 = .ok (.getfield 29, 3) := by decide +kernel
theorem dX11_nameLength_12 : decode cX11_nameLength 12 = .ok (.iload_n 1, 1) := by decide +kernel
theorem dX11_nameLength_13 : decode cX11_nameLength 13 = .ok (.iaload, 1) := by decide +kernel
theorem dX11_nameLength_14 : decode cX11_nameLength 14 = .ok (.goto 4, 3) := by decide +kernel
theorem dX11_nameLength_17 : decode cX11_nameLength 17 = .ok (.iconst 0, 1) := by decide +kernel
theorem dX11_nameLength_18 : decode cX11_nameLength 18 = .ok (.ireturn, 1) := by decide +kernel
theorem dX11_nameAt_0 : decode cX11_nameAt 0 = .ok (.aload_n 0, 1) := by decide +kernel
theorem dX11_nameAt_1 : decode cX11_nameAt 1 = .ok (.aload_n 0, 1) := by decide +kernel
theorem dX11_nameAt_2 : decode cX11_nameAt 2 = .ok (.iload_n 1, 1) := by decide +kernel
theorem dX11_nameAt_3 : decode cX11_nameAt 3 = .ok (.invokevirtual 118, 3) := by decide +kernel
theorem dX11_nameAt_6 : decode cX11_nameAt 6 = .ok (.ifCond .eq 23, 3) := by decide +kernel
theorem dX11_nameAt_9 : decode cX11_nameAt 9 = .ok (.iload_n 2, 1) := by decide +kernel
theorem dX11_nameAt_10 : decode cX11_nameAt 10 = .ok (.iconst 0, 1) := by decide +kernel
theorem dX11_nameAt_11 : decode cX11_nameAt 11 = .ok (.aload_n 0, 1) := by decide +kernel
theorem dX11_nameAt_12 : decode cX11_nameAt 12 = .ok (.getfield 29, 3) := by decide +kernel
theorem dX11_nameAt_15 : decode cX11_nameAt 15 = .ok (.iload_n 1, 1) := by decide +kernel
theorem dX11_nameAt_16 : decode cX11_nameAt 16 = .ok (.iaload, 1) := by decide +kernel
theorem dX11_nameAt_17 : decode cX11_nameAt 17 = .ok (.iconst 1, 1) := by decide +kernel
theorem dX11_nameAt_18 : decode cX11_nameAt 18 = .ok (.isub, 1) := by decide +kernel
theorem dX11_nameAt_19 : decode cX11_nameAt 19 = .ok (.invokestatic 114, 3) := by decide +kernel
theorem dX11_nameAt_22 : decode cX11_nameAt 22 = .ok (.ifCond .eq 7, 3) := by decide +kernel
theorem dX11_nameAt_25 : decode cX11_nameAt 25 = .ok (.iconst 0, 1) := by decide +kernel
theorem dX11_nameAt_26 : decode cX11_nameAt 26 = .ok (.goto 4, 3) := by decide +kernel
theorem dX11_nameAt_29 : decode cX11_nameAt 29 = .ok (.iconst 1, 1) := by decide +kernel
theorem dX11_nameAt_30 : decode cX11_nameAt 30 = .ok (.putfield 111, 3) := by decide +kernel
theorem dX11_nameAt_33 : decode cX11_nameAt 33 = .ok (.aload_n 0, 1) := by decide +kernel
theorem dX11_nameAt_34 : decode cX11_nameAt 34 = .ok (.getfield 111, 3) := by decide +kernel
theorem dX11_nameAt_37 : decode cX11_nameAt 37 = .ok (.ifCond .ne 17, 3) := by decide +kernel
theorem dX11_nameAt_40 : decode cX11_nameAt 40 = .ok (.aload_n 0, 1) := by decide +kernel
theorem dX11_nameAt_41 : decode cX11_nameAt 41 = .ok (.getfield 26, 3) := by decide +kernel
theorem dX11_nameAt_44 : decode cX11_nameAt 44 = .ok (.bipush 12, 2) := by decide +kernel
theorem dX11_nameAt_46 : decode cX11_nameAt 46 = .ok (.iload_n 1, 1) := by decide +kernel
theorem dX11_nameAt_47 : decode cX11_nameAt 47 = .ok (.imul, 1) := by decide +kernel
theorem dX11_nameAt_48 : decode cX11_nameAt 48 = .ok (.iload_n 2, 1) := by decide +kernel
theorem dX11_nameAt_49 : decode cX11_nameAt 49 = .ok (.iadd, 1) := by decide +kernel
theorem dX11_nameAt_50 : decode cX11_nameAt 50 = .ok (.iaload, 1) := by decide +kernel
theorem dX11_nameAt_51 : decode cX11_nameAt 51 = .ok (.goto 4, 3) := by decide +kernel
theorem dX11_nameAt_54 : decode cX11_nameAt 54 = .ok (.iconst 0, 1) := by decide +kernel
theorem dX11_nameAt_55 : decode cX11_nameAt 55 = .ok (.ireturn, 1) := by decide +kernel
theorem dX11_contentLength_0 : decode cX11_contentLength 0 = .ok (.aload_n 0, 1) := by decide +kernel
theorem dX11_contentLength_1 : decode cX11_contentLength 1 = .ok (.iload_n 1, 1) := by decide +kernel
theorem dX11_contentLength_2 : decode cX11_contentLength 2 = .ok (.invokevirtual 315, 3) := by decide +kernel
theorem dX11_contentLength_5 : decode cX11_contentLength 5 = .ok (.ifCond .eq 12, 3) := by decide +kernel
theorem dX11_contentLength_8 : decode cX11_contentLength 8 = .ok (.aload_n 0, 1) := by decide +kernel
theorem dX11_contentLength_9 : decode cX11_contentLength 9 = .ok (.getfield 35, 3) := by decide +kernel
theorem dX11_contentLength_12 : decode cX11_contentLength 12 = .ok (.iload_n 1, 1) := by decide +kernel
theorem dX11_contentLength_13 : decode cX11_contentLength 13 = .ok (.iaload, 1) := by decide +kernel
theorem dX11_contentLength_14 : decode cX11_contentLength 14 = .ok (.goto 4, 3) := by decide +kernel
theorem dX11_contentLength_17 : decode cX11_contentLength 17 = .ok (.iconst 0, 1) := by decide +kernel
theorem dX11_contentLength_18 : decode cX11_contentLength 18 = .ok (.ireturn, 1) := by decide +kernel
theorem dX11_contentAt_0 : decode cX11_contentAt 0 = .ok (.aload_n 0, 1) := by decide +kernel
theorem dX11_contentAt_1 : decode cX11_contentAt 1 = .ok (.aload_n 0, 1) := by decide +kernel
theorem dX11_contentAt_2 : decode cX11_contentAt 2 = .ok (.iload_n 1, 1) := by decide +kernel
theorem dX11_contentAt_3 : decode cX11_contentAt 3 = .ok (.invokevirtual 118, 3) := by decide +kernel
theorem dX11_contentAt_6 : decode cX11_contentAt 6 = .ok (.ifCond .eq 23, 3) := by decide +kernel
theorem dX11_contentAt_9 : decode cX11_contentAt 9 = .ok (.iload_n 2, 1) := by decide +kernel
theorem dX11_contentAt_10 : decode cX11_contentAt 10 = .ok (.iconst 0, 1) := by decide +kernel
theorem dX11_contentAt_11 : decode cX11_contentAt 11 = .ok (.aload_n 0, 1) := by decide +kernel
theorem dX11_contentAt_12 : decode cX11_contentAt 12 = .ok (.getfield 35, 3) := by decide +kernel
theorem dX11_contentAt_15 : decode cX11_contentAt 15 = .ok (.iload_n 1, 1) := by decide +kernel
theorem dX11_contentAt_16 : decode cX11_contentAt 16 = .ok (.iaload, 1) := by decide +kernel
theorem dX11_contentAt_17 : decode cX11_contentAt 17 = .ok (.iconst 1, 1) := by decide +kernel
theorem dX11_contentAt_18 : decode cX11_contentAt 18 = .ok (.isub, 1) := by decide +kernel
theorem dX11_contentAt_19 : decode cX11_contentAt 19 = .ok (.invokestatic 114, 3) := by decide +kernel
theorem dX11_contentAt_22 : decode cX11_contentAt 22 = .ok (.ifCond .eq 7, 3) := by decide +kernel
theorem dX11_contentAt_25 : decode cX11_contentAt 25 = .ok (.iconst 0, 1) := by decide +kernel
theorem dX11_contentAt_26 : decode cX11_contentAt 26 = .ok (.goto 4, 3) := by decide +kernel
theorem dX11_contentAt_29 : decode cX11_contentAt 29 = .ok (.iconst 1, 1) := by decide +kernel
theorem dX11_contentAt_30 : decode cX11_contentAt 30 = .ok (.putfield 111, 3) := by decide +kernel
theorem dX11_contentAt_33 : decode cX11_contentAt 33 = .ok (.aload_n 0, 1) := by decide +kernel
theorem dX11_contentAt_34 : decode cX11_contentAt 34 = .ok (.getfield 111, 3) := by decide +kernel
theorem dX11_contentAt_37 : decode cX11_contentAt 37 = .ok (.ifCond .ne 17, 3) := by decide +kernel
theorem dX11_contentAt_40 : decode cX11_contentAt 40 = .ok (.aload_n 0, 1) := by decide +kernel
theorem dX11_contentAt_41 : decode cX11_contentAt 41 = .ok (.getfield 32, 3) := by decide +kernel
theorem dX11_contentAt_44 : decode cX11_contentAt 44 = .ok (.bipush 12, 2) := by decide +kernel
theorem dX11_contentAt_46 : decode cX11_contentAt 46 = .ok (.iload_n 1, 1) := by decide +kernel
theorem dX11_contentAt_47 : decode cX11_contentAt 47 = .ok (.imul, 1) := by decide +kernel
theorem dX11_contentAt_48 : decode cX11_contentAt 48 = .ok (.iload_n 2, 1) := by decide +kernel
theorem dX11_contentAt_49 : decode cX11_contentAt 49 = .ok (.iadd, 1) := by decide +kernel
theorem dX11_contentAt_50 : decode cX11_contentAt 50 = .ok (.iaload, 1) := by decide +kernel
theorem dX11_contentAt_51 : decode cX11_contentAt 51 = .ok (.goto 4, 3) := by decide +kernel
theorem dX11_contentAt_54 : decode cX11_contentAt 54 = .ok (.iconst 0, 1) := by decide +kernel
theorem dX11_contentAt_55 : decode cX11_contentAt 55 = .ok (.ireturn, 1) := by decide +kernel
theorem dX11_isOn_0 : decode cX11_isOn 0 = .ok (.aload_n 0, 1) := by decide +kernel
theorem dX11_isOn_1 : decode cX11_isOn 1 = .ok (.iload_n 1, 1) := by decide +kernel
theorem dX11_isOn_2 : decode cX11_isOn 2 = .ok (.invokevirtual 315, 3) := by decide +kernel
theorem dX11_isOn_5 : decode cX11_isOn 5 = .ok (.ifCond .eq 16, 3) := by decide +kernel
theorem dX11_isOn_8 : decode cX11_isOn 8 = .ok (.aload_n 0, 1) := by decide +kernel
theorem dX11_isOn_9 : decode cX11_isOn 9 = .ok (.getfield 38, 3) := by decide +kernel
theorem dX11_isOn_12 : decode cX11_isOn 12 = .ok (.iload_n 1, 1) := by decide +kernel
theorem dX11_isOn_13 : decode cX11_isOn 13 = .ok (.baload, 1) := by decide +kernel
theorem dX11_isOn_14 : decode cX11_isOn 14 = .ok (.ifCond .eq 7, 3) := by decide +kernel
theorem dX11_isOn_17 : decode cX11_isOn 17 = .ok (.iconst 1, 1) := by decide +kernel
theorem dX11_isOn_18 : decode cX11_isOn 18 = .ok (.goto 4, 3) := by decide +kernel
theorem dX11_isOn_21 : decode cX11_isOn 21 = .ok (.iconst 0, 1) := by decide +kernel
theorem dX11_isOn_22 : decode cX11_isOn 22 = .ok (.ireturn, 1) := by decide +kernel
theorem dX11_presses_0 : decode cX11_presses 0 = .ok (.aload_n 0, 1) := by decide +kernel
theorem dX11_presses_1 : decode cX11_presses 1 = .ok (.iload_n 1, 1) := by decide +kernel
theorem dX11_presses_2 : decode cX11_presses 2 = .ok (.invokevirtual 315, 3) := by decide +kernel
theorem dX11_presses_5 : decode cX11_presses 5 = .ok (.ifCond .eq 12, 3) := by decide +kernel
theorem dX11_presses_8 : decode cX11_presses 8 = .ok (.aload_n 0, 1) := by decide +kernel
theorem dX11_presses_9 : decode cX11_presses 9 = .ok (.getfield 41, 3) := by decide +kernel
theorem dX11_presses_12 : decode cX11_presses 12 = .ok (.iload_n 1, 1) := by decide +kernel
theorem dX11_presses_13 : decode cX11_presses 13 = .ok (.iaload, 1) := by decide +kernel
theorem dX11_presses_14 : decode cX11_presses 14 = .ok (.goto 4, 3) := by decide +kernel
theorem dX11_presses_17 : decode cX11_presses 17 = .ok (.iconst 0, 1) := by decide +kernel
theorem dX11_presses_18 : decode cX11_presses 18 = .ok (.ireturn, 1) := by decide +kernel
theorem dX11_isShown_0 : decode cX11_isShown 0 = .ok (.aload_n 0, 1) := by decide +kernel
theorem dX11_isShown_1 : decode cX11_isShown 1 = .ok (.iload_n 1, 1) := by decide +kernel
theorem dX11_isShown_2 : decode cX11_isShown 2 = .ok (.invokevirtual 315, 3) := by decide +kernel
theorem dX11_isShown_5 : decode cX11_isShown 5 = .ok (.ifCond .eq 15, 3) := by decide +kernel
theorem dX11_isShown_8 : decode cX11_isShown 8 = .ok (.aload_n 0, 1) := by decide +kernel
theorem dX11_isShown_9 : decode cX11_isShown 9 = .ok (.iload_n 1, 1) := by decide +kernel
theorem dX11_isShown_10 : decode cX11_isShown 10 = .ok (.invokevirtual 224, 3) := by decide +kernel
theorem dX11_isShown_13 : decode cX11_isShown 13 = .ok (.ifCond .eq 7, 3) := by decide +kernel
theorem dX11_isShown_16 : decode cX11_isShown 16 = .ok (.iconst 1, 1) := by decide +kernel
theorem dX11_isShown_17 : decode cX11_isShown 17 = .ok (.goto 4, 3) := by decide +kernel
theorem dX11_isShown_20 : decode cX11_isShown 20 = .ok (.iconst 0, 1) := by decide +kernel
theorem dX11_isShown_21 : decode cX11_isShown 21 = .ok (.ireturn, 1) := by decide +kernel
theorem dX11_level_0 : decode cX11_level 0 = .ok (.aload_n 0, 1) := by decide +kernel
theorem dX11_level_1 : decode cX11_level 1 = .ok (.iload_n 1, 1) := by decide +kernel
theorem dX11_level_2 : decode cX11_level 2 = .ok (.invokevirtual 315, 3) := by decide +kernel
theorem dX11_level_5 : decode cX11_level 5 = .ok (.ifCond .eq 11, 3) := by decide +kernel
theorem dX11_level_8 : decode cX11_level 8 = .ok (.aload_n 0, 1) := by decide +kernel
theorem dX11_level_9 : decode cX11_level 9 = .ok (.iload_n 1, 1) := by decide +kernel
theorem dX11_level_10 : decode cX11_level 10 = .ok (.invokevirtual 164, 3) := by decide +kernel
theorem dX11_level_13 : decode cX11_level 13 = .ok (.goto 4, 3) := by decide +kernel
theorem dX11_level_16 : decode cX11_level 16 = .ok (.iconst 0, 1) := by decide +kernel
theorem dX11_level_17 : decode cX11_level 17 = .ok (.ireturn, 1) := by decide +kernel
theorem dX11_reading_0 : decode cX11_reading 0 = .ok (.aload_n 0, 1) := by decide +kernel
theorem dX11_reading_1 : decode cX11_reading 1 = .ok (.iconst 0, 1) := by decide +kernel
theorem dX11_reading_2 : decode cX11_reading 2 = .ok (.putfield 111, 3) := by decide +kernel
theorem dX11_reading_5 : decode cX11_reading 5 = .ok (.aload_n 0, 1) := by decide +kernel
theorem dX11_reading_6 : decode cX11_reading 6 = .ok (.invokevirtual 125, 3) := by decide +kernel
theorem dX11_reading_9 : decode cX11_reading 9 = .ok (.aload_n 0, 1) := by decide +kernel
theorem dX11_reading_10 : decode cX11_reading 10 = .ok (.getfield 122, 3) := by decide +kernel
theorem dX11_reading_13 : decode cX11_reading 13 = .ok (.ireturn, 1) := by decide +kernel
abbrev mX11_setManner : gM := (yX11_setManner, cX11_setManner, 4, (Option.some FieldType.int), [])
theorem caX11_setManner : cal mX11_setManner 2 := ⟨xw 1761 (by decide +kernel) rfl, xw 102 (by decide +kernel) rfl, by decide, by decide +kernel⟩
theorem cvX11_setManner : calV mX11_setManner := ⟨xw 1759 (by decide +kernel) rfl, xw 1760 (by decide +kernel) rfl⟩
abbrev mX11_elements : gM := (yX11_elements, cX11_elements, 3, (Option.some FieldType.int), [])
theorem caX11_elements : cal mX11_elements 0 := ⟨xw 1765 (by decide +kernel) rfl, xw 102 (by decide +kernel) rfl, by decide, by decide +kernel⟩
theorem cvX11_elements : calV mX11_elements := ⟨xw 1763 (by decide +kernel) rfl, xw 1764 (by decide +kernel) rfl⟩
abbrev mX11_kind : gM := (yX11_kind, cX11_kind, 2, (Option.some FieldType.int), [])
theorem caX11_kind : cal mX11_kind 1 := ⟨xw 1769 (by decide +kernel) rfl, xw 102 (by decide +kernel) rfl, by decide, by decide +kernel⟩
theorem cvX11_kind : calV mX11_kind := ⟨xw 1767 (by decide +kernel) rfl, xw 1768 (by decide +kernel) rfl⟩
abbrev mX11_parent : gM := (yX11_parent, cX11_parent, 2, (Option.some FieldType.int), [])
theorem caX11_parent : cal mX11_parent 1 := ⟨xw 1777 (by decide +kernel) rfl, xw 102 (by decide +kernel) rfl, by decide, by decide +kernel⟩
theorem cvX11_parent : calV mX11_parent := ⟨xw 1775 (by decide +kernel) rfl, xw 1776 (by decide +kernel) rfl⟩
abbrev mX11_children : gM := (yX11_children, cX11_children, 2, (Option.some FieldType.int), [])
theorem caX11_children : cal mX11_children 1 := ⟨xw 1781 (by decide +kernel) rfl, xw 102 (by decide +kernel) rfl, by decide, by decide +kernel⟩
theorem cvX11_children : calV mX11_children := ⟨xw 1779 (by decide +kernel) rfl, xw 1780 (by decide +kernel) rfl⟩
abbrev mX11_childAt : gM := (yX11_childAt, cX11_childAt, 3, (Option.some FieldType.int), [])
theorem caX11_childAt : cal mX11_childAt 2 := ⟨xw 1785 (by decide +kernel) rfl, xw 102 (by decide +kernel) rfl, by decide, by decide +kernel⟩
theorem cvX11_childAt : calV mX11_childAt := ⟨xw 1783 (by decide +kernel) rfl, xw 1784 (by decide +kernel) rfl⟩
abbrev mX11_nameLength : gM := (yX11_nameLength, cX11_nameLength, 2, (Option.some FieldType.int), [])
theorem caX11_nameLength : cal mX11_nameLength 1 := ⟨xw 1789 (by decide +kernel) rfl, xw 102 (by decide +kernel) rfl, by decide, by decide +kernel⟩
theorem cvX11_nameLength : calV mX11_nameLength := ⟨xw 1787 (by decide +kernel) rfl, xw 1788 (by decide +kernel) rfl⟩
abbrev mX11_nameAt : gM := (yX11_nameAt, cX11_nameAt, 3, (Option.some FieldType.int), [])
theorem caX11_nameAt : cal mX11_nameAt 2 := ⟨xw 1793 (by decide +kernel) rfl, xw 102 (by decide +kernel) rfl, by decide, by decide +kernel⟩
theorem cvX11_nameAt : calV mX11_nameAt := ⟨xw 1791 (by decide +kernel) rfl, xw 1792 (by decide +kernel) rfl⟩
abbrev mX11_contentLength : gM := (yX11_contentLength, cX11_contentLength, 2, (Option.some FieldType.int), [])
theorem caX11_contentLength : cal mX11_contentLength 1 := ⟨xw 1797 (by decide +kernel) rfl, xw 102 (by decide +kernel) rfl, by decide, by decide +kernel⟩
theorem cvX11_contentLength : calV mX11_contentLength := ⟨xw 1795 (by decide +kernel) rfl, xw 1796 (by decide +kernel) rfl⟩
abbrev mX11_contentAt : gM := (yX11_contentAt, cX11_contentAt, 3, (Option.some FieldType.int), [])
theorem caX11_contentAt : cal mX11_contentAt 2 := ⟨xw 1801 (by decide +kernel) rfl, xw 102 (by decide +kernel) rfl, by decide, by decide +kernel⟩
theorem cvX11_contentAt : calV mX11_contentAt := ⟨xw 1799 (by decide +kernel) rfl, xw 1800 (by decide +kernel) rfl⟩
abbrev mX11_isOn : gM := (yX11_isOn, cX11_isOn, 2, (Option.some FieldType.boolean), [])
theorem caX11_isOn : cal mX11_isOn 1 := ⟨xw 1805 (by decide +kernel) rfl, xw 102 (by decide +kernel) rfl, by decide, by decide +kernel⟩
theorem cvX11_isOn : calV mX11_isOn := ⟨xw 1803 (by decide +kernel) rfl, xw 1804 (by decide +kernel) rfl⟩
abbrev mX11_presses : gM := (yX11_presses, cX11_presses, 2, (Option.some FieldType.int), [])
theorem caX11_presses : cal mX11_presses 1 := ⟨xw 1809 (by decide +kernel) rfl, xw 102 (by decide +kernel) rfl, by decide, by decide +kernel⟩
theorem cvX11_presses : calV mX11_presses := ⟨xw 1807 (by decide +kernel) rfl, xw 1808 (by decide +kernel) rfl⟩
abbrev mX11_isShown : gM := (yX11_isShown, cX11_isShown, 2, (Option.some FieldType.boolean), [])
theorem caX11_isShown : cal mX11_isShown 1 := ⟨xw 1813 (by decide +kernel) rfl, xw 102 (by decide +kernel) rfl, by decide, by decide +kernel⟩
theorem cvX11_isShown : calV mX11_isShown := ⟨xw 1811 (by decide +kernel) rfl, xw 1812 (by decide +kernel) rfl⟩
abbrev mX11_level : gM := (yX11_level, cX11_level, 2, (Option.some FieldType.int), [])
theorem caX11_level : cal mX11_level 1 := ⟨xw 1817 (by decide +kernel) rfl, xw 102 (by decide +kernel) rfl, by decide, by decide +kernel⟩
theorem cvX11_level : calV mX11_level := ⟨xw 1815 (by decide +kernel) rfl, xw 1816 (by decide +kernel) rfl⟩
abbrev mX11_reading : gM := (yX11_reading, cX11_reading, 1, (Option.some FieldType.int), [])
theorem caX11_reading : cal mX11_reading 0 := ⟨xw 1821 (by decide +kernel) rfl, xw 102 (by decide +kernel) rfl, by decide, by decide +kernel⟩
theorem cvX11_reading : calV mX11_reading := ⟨xw 1819 (by decide +kernel) rfl, xw 1820 (by decide +kernel) rfl⟩
theorem lkX11_315 : Cond.methodLink RX11 315 yX11_asksFor ∈ XW := xw 1770 (by decide +kernel) rfl
/-! BrailleDeskModel.setManner -/
theorem tX11_setManner {G : gG} (a0 : Nat) (h : hp) (a1 : Int32) (a2 : Int32) (m : mm) (Q : hQ) (hF : okB (fX11_setManner a1 a2 m) (pM gI Q a0 h)) : gS G mX11_setManner 2 0 0 [sr (some a0), si a1, si a2] (jn a0 h m) Q := by
  delta fX11_setManner at hF
  refine gS_at [some (sr (some a0)), some (si a1), some (si a2), none] pl_X11 rfl (Nat.le_of_ble_eq_true rfl) rfl ?_
  refine v_aload_n (pc := 0) (i := 0) dX11_setManner_0 rfl rfl ?_
  refine v_aload_n (pc := 1) (i := 0) dX11_setManner_1 rfl rfl ?_
  refine v_iload_n (pc := 2) (i := 1) dX11_setManner_2 rfl rfl ?_
  refine cpM_V (pc := 3) gI (as := [si a1]) (st := [sr (some a0)]) (N := mX11_isElement) (k := 0) (n := 0) (k1 := 0) (n1 := 0) dX11_setManner_3 lkX11_118 caX11_isElement cvX11_isElement rfl rfl (fun Q1 hq => tX11_isElement a0 h a1 m Q1 hq) ⟨by decide, by decide⟩ (Nat.le_of_ble_eq_true rfl) rfl hF (fun x1 hF => ?_)
  show gV G mX11_setManner 2 Q 6 [some (sr (some a0)), some (si a1), some (si a2), none] [si x1, sr (some a0)] (0) (0) (jn a0 h m)
  refine mg (X := fun q2 => gV G mX11_setManner 2 Q 42 [some (sr (some a0)), some (si a1), some (si a2), none] [si q2, sr (some a0)] (0) (0) (jn a0 h m)) hF (fun _ hj3 hF => ?_) (fun q2 hF => ?_)
  · refine v_if_ne (pc := 6) 13 dX11_setManner_6 rfl (fun hc => ?_) (fun hc => ?_)
    · replace hF := (okB_if hF).2 hc
      refine v_iload_n (pc := 13) (i := 2) dX11_setManner_13 rfl rfl ?_
      refine v_iconst (pc := 14) (v := (0 : Int32)) dX11_setManner_14 rfl ?_
      refine v_iconst (pc := 15) (v := (2 : Int32)) dX11_setManner_15 rfl ?_
      refine cp_S (pc := 16) gI (as := [si a2, si (0 : Int32), si (2 : Int32)]) (st := [sr (some a0)]) (N := mX11_in) (k := 0) (n := 0) (k1 := 0) (n1 := 0) dX11_setManner_16 lkX11_114 caX11_in csX11_in rfl (fun Q1 hq => tX11_in a2 (0 : Int32) (2 : Int32) (jn a0 h m) Q1 hq) ⟨by decide, by decide⟩ (Nat.le_of_ble_eq_true rfl) rfl hF (fun x4 hF => ?_)
      show gV G mX11_setManner 2 Q 19 [some (sr (some a0)), some (si a1), some (si a2), none] [si x4, sr (some a0)] (0) (0) (jn a0 h m)
      refine v_if_ne (pc := 19) 26 dX11_setManner_19 rfl (fun hc => ?_) (fun hc => ?_)
      · replace hF := (okB_if hF).2 hc
        refine v_aload_n (pc := 26) (i := 0) dX11_setManner_26 rfl rfl ?_
        refine m_getA (pc := 27) (j := 2) dX11_setManner_27 flX11_13 rfl (by decide) ?_
        refine v_iload_n (pc := 30) (i := 1) dX11_setManner_30 rfl rfl ?_
        refine m_iald (pc := 31) (j := 2) dX11_setManner_31 hF (fun x5 hF => ?_)
        refine v_bipush (pc := 32) (v := (7 : Int32)) dX11_setManner_32 rfl ?_
        refine v_icmp_eq (pc := 34) 41 dX11_setManner_34 rfl (fun hc => ?_) (fun hc => ?_)
        · replace hF := (okB_if hF).1 hc
          refine v_iconst (pc := 41) (v := (0 : Int32)) dX11_setManner_41 rfl ?_
          exact v_lle [some (sr (some a0)), some (si a1), some (si a2), none] ⟨rfl, rfl, rfl, trivial⟩ (hj3 (0 : Int32) (okB_some hF))
        replace hF := (okB_if hF).2 hc
        refine v_iconst (pc := 37) (v := (3 : Int32)) dX11_setManner_37 rfl ?_
        refine v_goto (pc := 38) 42 dX11_setManner_38 rfl ?_
        exact v_lle [some (sr (some a0)), some (si a1), some (si a2), none] ⟨rfl, rfl, rfl, trivial⟩ (hj3 (3 : Int32) (okB_some hF))
      replace hF := (okB_if hF).1 hc
      refine v_iconst (pc := 22) (v := (2 : Int32)) dX11_setManner_22 rfl ?_
      refine v_goto (pc := 23) 42 dX11_setManner_23 rfl ?_
      exact v_lle [some (sr (some a0)), some (si a1), some (si a2), none] ⟨rfl, rfl, rfl, trivial⟩ (hj3 (2 : Int32) (okB_some hF))
    replace hF := (okB_if hF).1 hc
    refine v_iconst (pc := 9) (v := (1 : Int32)) dX11_setManner_9 rfl ?_
    refine v_goto (pc := 10) 42 dX11_setManner_10 rfl ?_
    exact v_lle [some (sr (some a0)), some (si a1), some (si a2), none] ⟨rfl, rfl, rfl, trivial⟩ (hj3 (1 : Int32) (okB_some hF))
  refine m_putI (pc := 42) (j := 48) dX11_setManner_42 flX11_111 rfl rfl rfl hF (fun m6 hF => ?_)
  refine v_aload_n (pc := 45) (i := 0) dX11_setManner_45 rfl rfl ?_
  refine m_getI (pc := 46) (j := 48) dX11_setManner_46 flX11_111 rfl rfl ?_
  refine v_if_le (pc := 49) 54 dX11_setManner_49 rfl (fun hc => ?_) (fun hc => ?_)
  · replace hF := (okB_if hF).1 hc
    refine v_aload_n (pc := 54) (i := 0) dX11_setManner_54 rfl rfl ?_
    refine m_getA (pc := 55) (j := 14) dX11_setManner_55 flX11_50 rfl (by decide) ?_
    refine v_iload_n (pc := 58) (i := 1) dX11_setManner_58 rfl rfl ?_
    refine m_iald (pc := 59) (j := 14) dX11_setManner_59 hF (fun x7 hF => ?_)
    refine v_istore_n (pc := 60) (i := 3) [some (sr (some a0)), some (si a1), some (si a2), some (si x7)] dX11_setManner_60 rfl (by decide) rfl rfl ?_
    refine v_aload_n (pc := 61) (i := 0) dX11_setManner_61 rfl rfl ?_
    refine m_getA (pc := 62) (j := 14) dX11_setManner_62 flX11_50 rfl (by decide) ?_
    refine v_iload_n (pc := 65) (i := 1) dX11_setManner_65 rfl rfl ?_
    refine v_iload_n (pc := 66) (i := 2) dX11_setManner_66 rfl rfl ?_
    refine m_iast (pc := 67) (j := 14) dX11_setManner_67 hF (fun m8 hF => ?_)
    refine v_aload_n (pc := 68) (i := 0) dX11_setManner_68 rfl rfl ?_
    refine v_iload_n (pc := 69) (i := 1) dX11_setManner_69 rfl rfl ?_
    refine chM_V (pc := 70) gU (as := [si a1]) (st := []) (N := mX11_swallow) (k := 0) (n := 0) (k1 := 0) (n1 := 0) dX11_setManner_70 lkX11_218 caX11_swallow cvX11_swallow rfl rfl (fun Q1 hq => tX11_swallow a0 h a1 m8 Q1 hq) ⟨by decide, by decide⟩ (Nat.le_of_ble_eq_true rfl) rfl hF (fun x9 m10 hF => ?_)
    show gV G mX11_setManner 2 Q 73 [some (sr (some a0)), some (si a1), some (si a2), some (si x7)] [] (0) (0) (jn a0 h m10)
    refine v_iload_n (pc := 73) (i := 3) dX11_setManner_73 rfl rfl ?_
    exact v_iret (pc := 74) dX11_setManner_74 rfl rfl (okr hF fun q => q)
  replace hF := (okB_if hF).2 hc
  refine v_iconst (pc := 52) (v := (0 : Int32)) dX11_setManner_52 rfl ?_
  exact v_iret (pc := 53) dX11_setManner_53 rfl rfl (okr hF fun q => q)
/-! BrailleDeskModel.elements -/
theorem lX11_elements_9 {G : gG} {Q : hQ} {P : Int32 → Prop} {k n : Nat} (a0 : Nat) (h : hp) (m : mm) (hJ : ∀ q : Int32, P q → gV G mX11_elements 0 Q 40 [none, some (si q), none] [] (k) (n) (jn a0 h m)) : ∀ (fu : Nat) (a : (Int32 × Int32)), okB (itr (fX11_elements_B9 m) fu a) P → gV G mX11_elements 0 Q 9 [some (sr (some a0)), some (si a.1), some (si a.2)] [] (k) (n) (jn a0 h m) :=
  lpg (X := fun (a : (Int32 × Int32)) => gV G mX11_elements 0 Q 9 [some (sr (some a0)), some (si a.1), some (si a.2)] [] (k) (n) (jn a0 h m)) (fun a P2 hL hE hF => by
    delta fX11_elements_B9 at hF
    refine v_iload_n (pc := 9) (i := 2) dX11_elements_9 rfl rfl ?_
    refine v_aload_n (pc := 10) (i := 0) dX11_elements_10 rfl rfl ?_
    refine m_getI (pc := 11) (j := 0) dX11_elements_11 flX11_101 rfl rfl ?_
    refine v_icmp_ge (pc := 14) 40 dX11_elements_14 rfl (fun hc => ?_) (fun hc => ?_)
    · replace hF := (okB_if hF).1 hc
      exact v_lle [none, some (si a.1), none] ⟨rfl, trivial⟩ (hJ a.1 (hE _ (okB_some hF)))
    replace hF := (okB_if hF).2 hc
    refine v_iload_n (pc := 17) (i := 1) dX11_elements_17 rfl rfl ?_
    refine v_aload_n (pc := 18) (i := 0) dX11_elements_18 rfl rfl ?_
    refine m_getA (pc := 19) (j := 1) dX11_elements_19 flX11_7 rfl (by decide) ?_
    refine v_iload_n (pc := 22) (i := 2) dX11_elements_22 rfl rfl ?_
    refine m_zald (pc := 23) (j := 1) dX11_elements_23 hF (fun x1 hF => ?_)
    refine v_if_eq (pc := 24) 31 dX11_elements_24 rfl (fun hc => ?_) (fun hc => ?_)
    · replace hF := (okB_if hF).1 hc
      refine v_iconst (pc := 31) (v := (0 : Int32)) dX11_elements_31 rfl ?_
      refine v_iadd (pc := 32) dX11_elements_32 ?_
      refine v_istore_n (pc := 33) (i := 1) [some (sr (some a0)), some (si (a.1 + (0 : Int32))), some (si a.2)] dX11_elements_33 rfl (by decide) rfl rfl ?_
      refine v_iinc (pc := 34) (i := 2) (a.2 + (1 : Int32)) [some (sr (some a0)), some (si (a.1 + (0 : Int32))), some (si (a.2 + (1 : Int32)))] dX11_elements_34 rfl rfl rfl rfl ?_
      refine v_goto (pc := 37) 9 dX11_elements_37 rfl ?_
      exact v_lle [some (sr (some a0)), some (si (a.1 + (0 : Int32))), some (si (a.2 + (1 : Int32)))] ⟨rfl, rfl, rfl, trivial⟩ (hL (a.1 + (0 : Int32), a.2 + (1 : Int32)) (okB_some hF))
    replace hF := (okB_if hF).2 hc
    refine v_iconst (pc := 27) (v := (1 : Int32)) dX11_elements_27 rfl ?_
    refine v_goto (pc := 28) 32 dX11_elements_28 rfl ?_
    refine v_iadd (pc := 32) dX11_elements_32 ?_
    refine v_istore_n (pc := 33) (i := 1) [some (sr (some a0)), some (si (a.1 + (1 : Int32))), some (si a.2)] dX11_elements_33 rfl (by decide) rfl rfl ?_
    refine v_iinc (pc := 34) (i := 2) (a.2 + (1 : Int32)) [some (sr (some a0)), some (si (a.1 + (1 : Int32))), some (si (a.2 + (1 : Int32)))] dX11_elements_34 rfl rfl rfl rfl ?_
    refine v_goto (pc := 37) 9 dX11_elements_37 rfl ?_
    exact v_lle [some (sr (some a0)), some (si (a.1 + (1 : Int32))), some (si (a.2 + (1 : Int32)))] ⟨rfl, rfl, rfl, trivial⟩ (hL (a.1 + (1 : Int32), a.2 + (1 : Int32)) (okB_some hF)))
theorem tX11_elements {G : gG} (a0 : Nat) (h : hp)  (m : mm) (Q : hQ) (hF : okB (fX11_elements m) (pM gI Q a0 h)) : gS G mX11_elements 0 0 0 [sr (some a0)] (jn a0 h m) Q := by
  delta fX11_elements at hF
  refine gS_at [some (sr (some a0)), none, none] pl_X11 rfl (Nat.le_of_ble_eq_true rfl) rfl ?_
  refine v_aload_n (pc := 0) (i := 0) dX11_elements_0 rfl rfl ?_
  refine v_iconst (pc := 1) (v := (0 : Int32)) dX11_elements_1 rfl ?_
  refine m_putI (pc := 2) (j := 48) dX11_elements_2 flX11_111 rfl rfl rfl hF (fun m1 hF => ?_)
  refine v_iconst (pc := 5) (v := (0 : Int32)) dX11_elements_5 rfl ?_
  refine v_istore_n (pc := 6) (i := 1) [some (sr (some a0)), some (si (0 : Int32)), none] dX11_elements_6 rfl (by decide) rfl rfl ?_
  refine v_iconst (pc := 7) (v := (0 : Int32)) dX11_elements_7 rfl ?_
  refine v_istore_n (pc := 8) (i := 2) [some (sr (some a0)), some (si (0 : Int32)), some (si (0 : Int32))] dX11_elements_8 rfl (by decide) rfl rfl ?_
  refine mg (X := fun q2 => gV G mX11_elements 0 Q 40 [none, some (si q2), none] [] (0) (0) (jn a0 h m1)) hF (fun _ hj3 hF => v_lle [some (sr (some a0)), some (si (0 : Int32)), some (si (0 : Int32))] ⟨rfl, rfl, rfl, trivial⟩ (lX11_elements_9 a0 h m1 hj3 FU ((0 : Int32), (0 : Int32)) hF)) (fun q2 hF => ?_)
  refine v_iload_n (pc := 40) (i := 1) dX11_elements_40 rfl rfl ?_
  exact v_iret (pc := 41) dX11_elements_41 rfl rfl (okr hF fun q => q)
/-! BrailleDeskModel.kind -/
theorem tX11_kind {G : gG} (a0 : Nat) (h : hp) (a1 : Int32) (m : mm) (Q : hQ) (hF : okB (fX11_kind a1 m) (pM gI Q a0 h)) : gS G mX11_kind 3 0 0 [sr (some a0), si a1] (jn a0 h m) Q := by
  delta fX11_kind at hF
  refine gS_at [some (sr (some a0)), some (si a1)] pl_X11 rfl (Nat.le_of_ble_eq_true rfl) rfl ?_
  refine v_aload_n (pc := 0) (i := 0) dX11_kind_0 rfl rfl ?_
  refine v_iload_n (pc := 1) (i := 1) dX11_kind_1 rfl rfl ?_
  refine chM_V (pc := 2) gI (as := [si a1]) (st := []) (N := mX11_asksFor) (k := 0) (n := 0) (k1 := 0) (n1 := 0) dX11_kind_2 lkX11_315 caX11_asksFor cvX11_asksFor rfl rfl (fun Q1 hq => tX11_asksFor a0 h a1 m Q1 hq) ⟨by decide, by decide⟩ (Nat.le_of_ble_eq_true rfl) rfl hF (fun x1 m2 hF => ?_)
  show gV G mX11_kind 3 Q 5 [some (sr (some a0)), some (si a1)] [si x1] (0) (0) (jn a0 h m2)
  refine v_if_eq (pc := 5) 17 dX11_kind_5 rfl (fun hc => ?_) (fun hc => ?_)
  · replace hF := (okB_if hF).1 hc
    refine v_iconst (pc := 17) (v := (0 : Int32)) dX11_kind_17 rfl ?_
    exact v_iret (pc := 18) dX11_kind_18 rfl rfl (okr hF fun q => q)
  replace hF := (okB_if hF).2 hc
  refine v_aload_n (pc := 8) (i := 0) dX11_kind_8 rfl rfl ?_
  refine m_getA (pc := 9) (j := 2) dX11_kind_9 flX11_13 rfl (by decide) ?_
  refine v_iload_n (pc := 12) (i := 1) dX11_kind_12 rfl rfl ?_
  refine m_iald (pc := 13) (j := 2) dX11_kind_13 hF (fun x3 hF => ?_)
  refine v_goto (pc := 14) 18 dX11_kind_14 rfl ?_
  exact v_iret (pc := 18) dX11_kind_18 rfl rfl (okr hF fun q => q)
/-! BrailleDeskModel.parent -/
theorem tX11_parent {G : gG} (a0 : Nat) (h : hp) (a1 : Int32) (m : mm) (Q : hQ) (hF : okB (fX11_parent a1 m) (pM gI Q a0 h)) : gS G mX11_parent 3 0 0 [sr (some a0), si a1] (jn a0 h m) Q := by
  delta fX11_parent at hF
  refine gS_at [some (sr (some a0)), some (si a1)] pl_X11 rfl (Nat.le_of_ble_eq_true rfl) rfl ?_
  refine v_aload_n (pc := 0) (i := 0) dX11_parent_0 rfl rfl ?_
  refine v_iload_n (pc := 1) (i := 1) dX11_parent_1 rfl rfl ?_
  refine chM_V (pc := 2) gI (as := [si a1]) (st := []) (N := mX11_asksFor) (k := 0) (n := 0) (k1 := 0) (n1 := 0) dX11_parent_2 lkX11_315 caX11_asksFor cvX11_asksFor rfl rfl (fun Q1 hq => tX11_asksFor a0 h a1 m Q1 hq) ⟨by decide, by decide⟩ (Nat.le_of_ble_eq_true rfl) rfl hF (fun x1 m2 hF => ?_)
  show gV G mX11_parent 3 Q 5 [some (sr (some a0)), some (si a1)] [si x1] (0) (0) (jn a0 h m2)
  refine v_if_eq (pc := 5) 17 dX11_parent_5 rfl (fun hc => ?_) (fun hc => ?_)
  · replace hF := (okB_if hF).1 hc
    refine v_iconst (pc := 17) (v := (0 : Int32)) dX11_parent_17 rfl ?_
    exact v_iret (pc := 18) dX11_parent_18 rfl rfl (okr hF fun q => q)
  replace hF := (okB_if hF).2 hc
  refine v_aload_n (pc := 8) (i := 0) dX11_parent_8 rfl rfl ?_
  refine m_getA (pc := 9) (j := 3) dX11_parent_9 flX11_17 rfl (by decide) ?_
  refine v_iload_n (pc := 12) (i := 1) dX11_parent_12 rfl rfl ?_
  refine m_iald (pc := 13) (j := 3) dX11_parent_13 hF (fun x3 hF => ?_)
  refine v_goto (pc := 14) 18 dX11_parent_14 rfl ?_
  exact v_iret (pc := 18) dX11_parent_18 rfl rfl (okr hF fun q => q)
/-! BrailleDeskModel.children -/
theorem tX11_children {G : gG} (a0 : Nat) (h : hp) (a1 : Int32) (m : mm) (Q : hQ) (hF : okB (fX11_children a1 m) (pM gI Q a0 h)) : gS G mX11_children 3 0 0 [sr (some a0), si a1] (jn a0 h m) Q := by
  delta fX11_children at hF
  refine gS_at [some (sr (some a0)), some (si a1)] pl_X11 rfl (Nat.le_of_ble_eq_true rfl) rfl ?_
  refine v_aload_n (pc := 0) (i := 0) dX11_children_0 rfl rfl ?_
  refine v_iload_n (pc := 1) (i := 1) dX11_children_1 rfl rfl ?_
  refine chM_V (pc := 2) gI (as := [si a1]) (st := []) (N := mX11_asksFor) (k := 0) (n := 0) (k1 := 0) (n1 := 0) dX11_children_2 lkX11_315 caX11_asksFor cvX11_asksFor rfl rfl (fun Q1 hq => tX11_asksFor a0 h a1 m Q1 hq) ⟨by decide, by decide⟩ (Nat.le_of_ble_eq_true rfl) rfl hF (fun x1 m2 hF => ?_)
  show gV G mX11_children 3 Q 5 [some (sr (some a0)), some (si a1)] [si x1] (0) (0) (jn a0 h m2)
  refine v_if_eq (pc := 5) 17 dX11_children_5 rfl (fun hc => ?_) (fun hc => ?_)
  · replace hF := (okB_if hF).1 hc
    refine v_iconst (pc := 17) (v := (0 : Int32)) dX11_children_17 rfl ?_
    exact v_iret (pc := 18) dX11_children_18 rfl rfl (okr hF fun q => q)
  replace hF := (okB_if hF).2 hc
  refine v_aload_n (pc := 8) (i := 0) dX11_children_8 rfl rfl ?_
  refine m_getA (pc := 9) (j := 5) dX11_children_9 flX11_23 rfl (by decide) ?_
  refine v_iload_n (pc := 12) (i := 1) dX11_children_12 rfl rfl ?_
  refine m_iald (pc := 13) (j := 5) dX11_children_13 hF (fun x3 hF => ?_)
  refine v_goto (pc := 14) 18 dX11_children_14 rfl ?_
  exact v_iret (pc := 18) dX11_children_18 rfl rfl (okr hF fun q => q)
/-! BrailleDeskModel.childAt -/
theorem tX11_childAt {G : gG} (a0 : Nat) (h : hp) (a1 : Int32) (a2 : Int32) (m : mm) (Q : hQ) (hF : okB (fX11_childAt a1 a2 m) (pM gI Q a0 h)) : gS G mX11_childAt 2 0 0 [sr (some a0), si a1, si a2] (jn a0 h m) Q := by
  delta fX11_childAt at hF
  refine gS_at [some (sr (some a0)), some (si a1), some (si a2)] pl_X11 rfl (Nat.le_of_ble_eq_true rfl) rfl ?_
  refine v_aload_n (pc := 0) (i := 0) dX11_childAt_0 rfl rfl ?_
  refine v_aload_n (pc := 1) (i := 0) dX11_childAt_1 rfl rfl ?_
  refine v_iload_n (pc := 2) (i := 1) dX11_childAt_2 rfl rfl ?_
  refine cpM_V (pc := 3) gI (as := [si a1]) (st := [sr (some a0)]) (N := mX11_isElement) (k := 0) (n := 0) (k1 := 0) (n1 := 0) dX11_childAt_3 lkX11_118 caX11_isElement cvX11_isElement rfl rfl (fun Q1 hq => tX11_isElement a0 h a1 m Q1 hq) ⟨by decide, by decide⟩ (Nat.le_of_ble_eq_true rfl) rfl hF (fun x1 hF => ?_)
  show gV G mX11_childAt 2 Q 6 [some (sr (some a0)), some (si a1), some (si a2)] [si x1, sr (some a0)] (0) (0) (jn a0 h m)
  refine mg (X := fun q2 => gV G mX11_childAt 2 Q 30 [some (sr (some a0)), some (si a1), some (si a2)] [si q2, sr (some a0)] (0) (0) (jn a0 h m)) hF (fun _ hj3 hF => ?_) (fun q2 hF => ?_)
  · refine v_if_eq (pc := 6) 29 dX11_childAt_6 rfl (fun hc => ?_) (fun hc => ?_)
    · replace hF := (okB_if hF).1 hc
      refine v_iconst (pc := 29) (v := (1 : Int32)) dX11_childAt_29 rfl ?_
      exact v_lle [some (sr (some a0)), some (si a1), some (si a2)] ⟨rfl, rfl, rfl, trivial⟩ (hj3 (1 : Int32) (okB_some hF))
    replace hF := (okB_if hF).2 hc
    refine v_iload_n (pc := 9) (i := 2) dX11_childAt_9 rfl rfl ?_
    refine v_iconst (pc := 10) (v := (0 : Int32)) dX11_childAt_10 rfl ?_
    refine v_aload_n (pc := 11) (i := 0) dX11_childAt_11 rfl rfl ?_
    refine m_getA (pc := 12) (j := 5) dX11_childAt_12 flX11_23 rfl (by decide) ?_
    refine v_iload_n (pc := 15) (i := 1) dX11_childAt_15 rfl rfl ?_
    refine m_iald (pc := 16) (j := 5) dX11_childAt_16 hF (fun x4 hF => ?_)
    refine v_iconst (pc := 17) (v := (1 : Int32)) dX11_childAt_17 rfl ?_
    refine v_isub (pc := 18) dX11_childAt_18 ?_
    refine cp_S (pc := 19) gI (as := [si a2, si (0 : Int32), si (x4 - (1 : Int32))]) (st := [sr (some a0)]) (N := mX11_in) (k := 0) (n := 0) (k1 := 0) (n1 := 0) dX11_childAt_19 lkX11_114 caX11_in csX11_in rfl (fun Q1 hq => tX11_in a2 (0 : Int32) (x4 - (1 : Int32)) (jn a0 h m) Q1 hq) ⟨by decide, by decide⟩ (Nat.le_of_ble_eq_true rfl) rfl hF (fun x5 hF => ?_)
    show gV G mX11_childAt 2 Q 22 [some (sr (some a0)), some (si a1), some (si a2)] [si x5, sr (some a0)] (0) (0) (jn a0 h m)
    refine v_if_eq (pc := 22) 29 dX11_childAt_22 rfl (fun hc => ?_) (fun hc => ?_)
    · replace hF := (okB_if hF).1 hc
      refine v_iconst (pc := 29) (v := (1 : Int32)) dX11_childAt_29 rfl ?_
      exact v_lle [some (sr (some a0)), some (si a1), some (si a2)] ⟨rfl, rfl, rfl, trivial⟩ (hj3 (1 : Int32) (okB_some hF))
    replace hF := (okB_if hF).2 hc
    refine v_iconst (pc := 25) (v := (0 : Int32)) dX11_childAt_25 rfl ?_
    refine v_goto (pc := 26) 30 dX11_childAt_26 rfl ?_
    exact v_lle [some (sr (some a0)), some (si a1), some (si a2)] ⟨rfl, rfl, rfl, trivial⟩ (hj3 (0 : Int32) (okB_some hF))
  refine m_putI (pc := 30) (j := 48) dX11_childAt_30 flX11_111 rfl rfl rfl hF (fun m6 hF => ?_)
  refine v_aload_n (pc := 33) (i := 0) dX11_childAt_33 rfl rfl ?_
  refine m_getI (pc := 34) (j := 48) dX11_childAt_34 flX11_111 rfl rfl ?_
  refine v_if_ne (pc := 37) 54 dX11_childAt_37 rfl (fun hc => ?_) (fun hc => ?_)
  · replace hF := (okB_if hF).2 hc
    refine v_iconst (pc := 54) (v := (0 : Int32)) dX11_childAt_54 rfl ?_
    exact v_iret (pc := 55) dX11_childAt_55 rfl rfl (okr hF fun q => q)
  replace hF := (okB_if hF).1 hc
  refine v_aload_n (pc := 40) (i := 0) dX11_childAt_40 rfl rfl ?_
  refine m_getA (pc := 41) (j := 4) dX11_childAt_41 flX11_20 rfl (by decide) ?_
  refine v_bipush (pc := 44) (v := (10 : Int32)) dX11_childAt_44 rfl ?_
  refine v_iload_n (pc := 46) (i := 1) dX11_childAt_46 rfl rfl ?_
  refine v_imul (pc := 47) dX11_childAt_47 ?_
  refine v_iload_n (pc := 48) (i := 2) dX11_childAt_48 rfl rfl ?_
  refine v_iadd (pc := 49) dX11_childAt_49 ?_
  refine m_iald (pc := 50) (j := 4) dX11_childAt_50 hF (fun x7 hF => ?_)
  refine v_goto (pc := 51) 55 dX11_childAt_51 rfl ?_
  exact v_iret (pc := 55) dX11_childAt_55 rfl rfl (okr hF fun q => q)
/-! BrailleDeskModel.nameLength -/
theorem tX11_nameLength {G : gG} (a0 : Nat) (h : hp) (a1 : Int32) (m : mm) (Q : hQ) (hF : okB (fX11_nameLength a1 m) (pM gI Q a0 h)) : gS G mX11_nameLength 3 0 0 [sr (some a0), si a1] (jn a0 h m) Q := by
  delta fX11_nameLength at hF
  refine gS_at [some (sr (some a0)), some (si a1)] pl_X11 rfl (Nat.le_of_ble_eq_true rfl) rfl ?_
  refine v_aload_n (pc := 0) (i := 0) dX11_nameLength_0 rfl rfl ?_
  refine v_iload_n (pc := 1) (i := 1) dX11_nameLength_1 rfl rfl ?_
  refine chM_V (pc := 2) gI (as := [si a1]) (st := []) (N := mX11_asksFor) (k := 0) (n := 0) (k1 := 0) (n1 := 0) dX11_nameLength_2 lkX11_315 caX11_asksFor cvX11_asksFor rfl rfl (fun Q1 hq => tX11_asksFor a0 h a1 m Q1 hq) ⟨by decide, by decide⟩ (Nat.le_of_ble_eq_true rfl) rfl hF (fun x1 m2 hF => ?_)
  show gV G mX11_nameLength 3 Q 5 [some (sr (some a0)), some (si a1)] [si x1] (0) (0) (jn a0 h m2)
  refine v_if_eq (pc := 5) 17 dX11_nameLength_5 rfl (fun hc => ?_) (fun hc => ?_)
  · replace hF := (okB_if hF).1 hc
    refine v_iconst (pc := 17) (v := (0 : Int32)) dX11_nameLength_17 rfl ?_
    exact v_iret (pc := 18) dX11_nameLength_18 rfl rfl (okr hF fun q => q)
  replace hF := (okB_if hF).2 hc
  refine v_aload_n (pc := 8) (i := 0) dX11_nameLength_8 rfl rfl ?_
  refine m_getA (pc := 9) (j := 7) dX11_nameLength_9 flX11_29 rfl (by decide) ?_
  refine v_iload_n (pc := 12) (i := 1) dX11_nameLength_12 rfl rfl ?_
  refine m_iald (pc := 13) (j := 7) dX11_nameLength_13 hF (fun x3 hF => ?_)
  refine v_goto (pc := 14) 18 dX11_nameLength_14 rfl ?_
  exact v_iret (pc := 18) dX11_nameLength_18 rfl rfl (okr hF fun q => q)
/-! BrailleDeskModel.nameAt -/
theorem tX11_nameAt {G : gG} (a0 : Nat) (h : hp) (a1 : Int32) (a2 : Int32) (m : mm) (Q : hQ) (hF : okB (fX11_nameAt a1 a2 m) (pM gI Q a0 h)) : gS G mX11_nameAt 2 0 0 [sr (some a0), si a1, si a2] (jn a0 h m) Q := by
  delta fX11_nameAt at hF
  refine gS_at [some (sr (some a0)), some (si a1), some (si a2)] pl_X11 rfl (Nat.le_of_ble_eq_true rfl) rfl ?_
  refine v_aload_n (pc := 0) (i := 0) dX11_nameAt_0 rfl rfl ?_
  refine v_aload_n (pc := 1) (i := 0) dX11_nameAt_1 rfl rfl ?_
  refine v_iload_n (pc := 2) (i := 1) dX11_nameAt_2 rfl rfl ?_
  refine cpM_V (pc := 3) gI (as := [si a1]) (st := [sr (some a0)]) (N := mX11_isElement) (k := 0) (n := 0) (k1 := 0) (n1 := 0) dX11_nameAt_3 lkX11_118 caX11_isElement cvX11_isElement rfl rfl (fun Q1 hq => tX11_isElement a0 h a1 m Q1 hq) ⟨by decide, by decide⟩ (Nat.le_of_ble_eq_true rfl) rfl hF (fun x1 hF => ?_)
  show gV G mX11_nameAt 2 Q 6 [some (sr (some a0)), some (si a1), some (si a2)] [si x1, sr (some a0)] (0) (0) (jn a0 h m)
  refine mg (X := fun q2 => gV G mX11_nameAt 2 Q 30 [some (sr (some a0)), some (si a1), some (si a2)] [si q2, sr (some a0)] (0) (0) (jn a0 h m)) hF (fun _ hj3 hF => ?_) (fun q2 hF => ?_)
  · refine v_if_eq (pc := 6) 29 dX11_nameAt_6 rfl (fun hc => ?_) (fun hc => ?_)
    · replace hF := (okB_if hF).1 hc
      refine v_iconst (pc := 29) (v := (1 : Int32)) dX11_nameAt_29 rfl ?_
      exact v_lle [some (sr (some a0)), some (si a1), some (si a2)] ⟨rfl, rfl, rfl, trivial⟩ (hj3 (1 : Int32) (okB_some hF))
    replace hF := (okB_if hF).2 hc
    refine v_iload_n (pc := 9) (i := 2) dX11_nameAt_9 rfl rfl ?_
    refine v_iconst (pc := 10) (v := (0 : Int32)) dX11_nameAt_10 rfl ?_
    refine v_aload_n (pc := 11) (i := 0) dX11_nameAt_11 rfl rfl ?_
    refine m_getA (pc := 12) (j := 7) dX11_nameAt_12 flX11_29 rfl (by decide) ?_
    refine v_iload_n (pc := 15) (i := 1) dX11_nameAt_15 rfl rfl ?_
    refine m_iald (pc := 16) (j := 7) dX11_nameAt_16 hF (fun x4 hF => ?_)
    refine v_iconst (pc := 17) (v := (1 : Int32)) dX11_nameAt_17 rfl ?_
    refine v_isub (pc := 18) dX11_nameAt_18 ?_
    refine cp_S (pc := 19) gI (as := [si a2, si (0 : Int32), si (x4 - (1 : Int32))]) (st := [sr (some a0)]) (N := mX11_in) (k := 0) (n := 0) (k1 := 0) (n1 := 0) dX11_nameAt_19 lkX11_114 caX11_in csX11_in rfl (fun Q1 hq => tX11_in a2 (0 : Int32) (x4 - (1 : Int32)) (jn a0 h m) Q1 hq) ⟨by decide, by decide⟩ (Nat.le_of_ble_eq_true rfl) rfl hF (fun x5 hF => ?_)
    show gV G mX11_nameAt 2 Q 22 [some (sr (some a0)), some (si a1), some (si a2)] [si x5, sr (some a0)] (0) (0) (jn a0 h m)
    refine v_if_eq (pc := 22) 29 dX11_nameAt_22 rfl (fun hc => ?_) (fun hc => ?_)
    · replace hF := (okB_if hF).1 hc
      refine v_iconst (pc := 29) (v := (1 : Int32)) dX11_nameAt_29 rfl ?_
      exact v_lle [some (sr (some a0)), some (si a1), some (si a2)] ⟨rfl, rfl, rfl, trivial⟩ (hj3 (1 : Int32) (okB_some hF))
    replace hF := (okB_if hF).2 hc
    refine v_iconst (pc := 25) (v := (0 : Int32)) dX11_nameAt_25 rfl ?_
    refine v_goto (pc := 26) 30 dX11_nameAt_26 rfl ?_
    exact v_lle [some (sr (some a0)), some (si a1), some (si a2)] ⟨rfl, rfl, rfl, trivial⟩ (hj3 (0 : Int32) (okB_some hF))
  refine m_putI (pc := 30) (j := 48) dX11_nameAt_30 flX11_111 rfl rfl rfl hF (fun m6 hF => ?_)
  refine v_aload_n (pc := 33) (i := 0) dX11_nameAt_33 rfl rfl ?_
  refine m_getI (pc := 34) (j := 48) dX11_nameAt_34 flX11_111 rfl rfl ?_
  refine v_if_ne (pc := 37) 54 dX11_nameAt_37 rfl (fun hc => ?_) (fun hc => ?_)
  · replace hF := (okB_if hF).2 hc
    refine v_iconst (pc := 54) (v := (0 : Int32)) dX11_nameAt_54 rfl ?_
    exact v_iret (pc := 55) dX11_nameAt_55 rfl rfl (okr hF fun q => q)
  replace hF := (okB_if hF).1 hc
  refine v_aload_n (pc := 40) (i := 0) dX11_nameAt_40 rfl rfl ?_
  refine m_getA (pc := 41) (j := 6) dX11_nameAt_41 flX11_26 rfl (by decide) ?_
  refine v_bipush (pc := 44) (v := (12 : Int32)) dX11_nameAt_44 rfl ?_
  refine v_iload_n (pc := 46) (i := 1) dX11_nameAt_46 rfl rfl ?_
  refine v_imul (pc := 47) dX11_nameAt_47 ?_
  refine v_iload_n (pc := 48) (i := 2) dX11_nameAt_48 rfl rfl ?_
  refine v_iadd (pc := 49) dX11_nameAt_49 ?_
  refine m_iald (pc := 50) (j := 6) dX11_nameAt_50 hF (fun x7 hF => ?_)
  refine v_goto (pc := 51) 55 dX11_nameAt_51 rfl ?_
  exact v_iret (pc := 55) dX11_nameAt_55 rfl rfl (okr hF fun q => q)
/-! BrailleDeskModel.contentLength -/
theorem tX11_contentLength {G : gG} (a0 : Nat) (h : hp) (a1 : Int32) (m : mm) (Q : hQ) (hF : okB (fX11_contentLength a1 m) (pM gI Q a0 h)) : gS G mX11_contentLength 3 0 0 [sr (some a0), si a1] (jn a0 h m) Q := by
  delta fX11_contentLength at hF
  refine gS_at [some (sr (some a0)), some (si a1)] pl_X11 rfl (Nat.le_of_ble_eq_true rfl) rfl ?_
  refine v_aload_n (pc := 0) (i := 0) dX11_contentLength_0 rfl rfl ?_
  refine v_iload_n (pc := 1) (i := 1) dX11_contentLength_1 rfl rfl ?_
  refine chM_V (pc := 2) gI (as := [si a1]) (st := []) (N := mX11_asksFor) (k := 0) (n := 0) (k1 := 0) (n1 := 0) dX11_contentLength_2 lkX11_315 caX11_asksFor cvX11_asksFor rfl rfl (fun Q1 hq => tX11_asksFor a0 h a1 m Q1 hq) ⟨by decide, by decide⟩ (Nat.le_of_ble_eq_true rfl) rfl hF (fun x1 m2 hF => ?_)
  show gV G mX11_contentLength 3 Q 5 [some (sr (some a0)), some (si a1)] [si x1] (0) (0) (jn a0 h m2)
  refine v_if_eq (pc := 5) 17 dX11_contentLength_5 rfl (fun hc => ?_) (fun hc => ?_)
  · replace hF := (okB_if hF).1 hc
    refine v_iconst (pc := 17) (v := (0 : Int32)) dX11_contentLength_17 rfl ?_
    exact v_iret (pc := 18) dX11_contentLength_18 rfl rfl (okr hF fun q => q)
  replace hF := (okB_if hF).2 hc
  refine v_aload_n (pc := 8) (i := 0) dX11_contentLength_8 rfl rfl ?_
  refine m_getA (pc := 9) (j := 9) dX11_contentLength_9 flX11_35 rfl (by decide) ?_
  refine v_iload_n (pc := 12) (i := 1) dX11_contentLength_12 rfl rfl ?_
  refine m_iald (pc := 13) (j := 9) dX11_contentLength_13 hF (fun x3 hF => ?_)
  refine v_goto (pc := 14) 18 dX11_contentLength_14 rfl ?_
  exact v_iret (pc := 18) dX11_contentLength_18 rfl rfl (okr hF fun q => q)
/-! BrailleDeskModel.contentAt -/
theorem tX11_contentAt {G : gG} (a0 : Nat) (h : hp) (a1 : Int32) (a2 : Int32) (m : mm) (Q : hQ) (hF : okB (fX11_contentAt a1 a2 m) (pM gI Q a0 h)) : gS G mX11_contentAt 2 0 0 [sr (some a0), si a1, si a2] (jn a0 h m) Q := by
  delta fX11_contentAt at hF
  refine gS_at [some (sr (some a0)), some (si a1), some (si a2)] pl_X11 rfl (Nat.le_of_ble_eq_true rfl) rfl ?_
  refine v_aload_n (pc := 0) (i := 0) dX11_contentAt_0 rfl rfl ?_
  refine v_aload_n (pc := 1) (i := 0) dX11_contentAt_1 rfl rfl ?_
  refine v_iload_n (pc := 2) (i := 1) dX11_contentAt_2 rfl rfl ?_
  refine cpM_V (pc := 3) gI (as := [si a1]) (st := [sr (some a0)]) (N := mX11_isElement) (k := 0) (n := 0) (k1 := 0) (n1 := 0) dX11_contentAt_3 lkX11_118 caX11_isElement cvX11_isElement rfl rfl (fun Q1 hq => tX11_isElement a0 h a1 m Q1 hq) ⟨by decide, by decide⟩ (Nat.le_of_ble_eq_true rfl) rfl hF (fun x1 hF => ?_)
  show gV G mX11_contentAt 2 Q 6 [some (sr (some a0)), some (si a1), some (si a2)] [si x1, sr (some a0)] (0) (0) (jn a0 h m)
  refine mg (X := fun q2 => gV G mX11_contentAt 2 Q 30 [some (sr (some a0)), some (si a1), some (si a2)] [si q2, sr (some a0)] (0) (0) (jn a0 h m)) hF (fun _ hj3 hF => ?_) (fun q2 hF => ?_)
  · refine v_if_eq (pc := 6) 29 dX11_contentAt_6 rfl (fun hc => ?_) (fun hc => ?_)
    · replace hF := (okB_if hF).1 hc
      refine v_iconst (pc := 29) (v := (1 : Int32)) dX11_contentAt_29 rfl ?_
      exact v_lle [some (sr (some a0)), some (si a1), some (si a2)] ⟨rfl, rfl, rfl, trivial⟩ (hj3 (1 : Int32) (okB_some hF))
    replace hF := (okB_if hF).2 hc
    refine v_iload_n (pc := 9) (i := 2) dX11_contentAt_9 rfl rfl ?_
    refine v_iconst (pc := 10) (v := (0 : Int32)) dX11_contentAt_10 rfl ?_
    refine v_aload_n (pc := 11) (i := 0) dX11_contentAt_11 rfl rfl ?_
    refine m_getA (pc := 12) (j := 9) dX11_contentAt_12 flX11_35 rfl (by decide) ?_
    refine v_iload_n (pc := 15) (i := 1) dX11_contentAt_15 rfl rfl ?_
    refine m_iald (pc := 16) (j := 9) dX11_contentAt_16 hF (fun x4 hF => ?_)
    refine v_iconst (pc := 17) (v := (1 : Int32)) dX11_contentAt_17 rfl ?_
    refine v_isub (pc := 18) dX11_contentAt_18 ?_
    refine cp_S (pc := 19) gI (as := [si a2, si (0 : Int32), si (x4 - (1 : Int32))]) (st := [sr (some a0)]) (N := mX11_in) (k := 0) (n := 0) (k1 := 0) (n1 := 0) dX11_contentAt_19 lkX11_114 caX11_in csX11_in rfl (fun Q1 hq => tX11_in a2 (0 : Int32) (x4 - (1 : Int32)) (jn a0 h m) Q1 hq) ⟨by decide, by decide⟩ (Nat.le_of_ble_eq_true rfl) rfl hF (fun x5 hF => ?_)
    show gV G mX11_contentAt 2 Q 22 [some (sr (some a0)), some (si a1), some (si a2)] [si x5, sr (some a0)] (0) (0) (jn a0 h m)
    refine v_if_eq (pc := 22) 29 dX11_contentAt_22 rfl (fun hc => ?_) (fun hc => ?_)
    · replace hF := (okB_if hF).1 hc
      refine v_iconst (pc := 29) (v := (1 : Int32)) dX11_contentAt_29 rfl ?_
      exact v_lle [some (sr (some a0)), some (si a1), some (si a2)] ⟨rfl, rfl, rfl, trivial⟩ (hj3 (1 : Int32) (okB_some hF))
    replace hF := (okB_if hF).2 hc
    refine v_iconst (pc := 25) (v := (0 : Int32)) dX11_contentAt_25 rfl ?_
    refine v_goto (pc := 26) 30 dX11_contentAt_26 rfl ?_
    exact v_lle [some (sr (some a0)), some (si a1), some (si a2)] ⟨rfl, rfl, rfl, trivial⟩ (hj3 (0 : Int32) (okB_some hF))
  refine m_putI (pc := 30) (j := 48) dX11_contentAt_30 flX11_111 rfl rfl rfl hF (fun m6 hF => ?_)
  refine v_aload_n (pc := 33) (i := 0) dX11_contentAt_33 rfl rfl ?_
  refine m_getI (pc := 34) (j := 48) dX11_contentAt_34 flX11_111 rfl rfl ?_
  refine v_if_ne (pc := 37) 54 dX11_contentAt_37 rfl (fun hc => ?_) (fun hc => ?_)
  · replace hF := (okB_if hF).2 hc
    refine v_iconst (pc := 54) (v := (0 : Int32)) dX11_contentAt_54 rfl ?_
    exact v_iret (pc := 55) dX11_contentAt_55 rfl rfl (okr hF fun q => q)
  replace hF := (okB_if hF).1 hc
  refine v_aload_n (pc := 40) (i := 0) dX11_contentAt_40 rfl rfl ?_
  refine m_getA (pc := 41) (j := 8) dX11_contentAt_41 flX11_32 rfl (by decide) ?_
  refine v_bipush (pc := 44) (v := (12 : Int32)) dX11_contentAt_44 rfl ?_
  refine v_iload_n (pc := 46) (i := 1) dX11_contentAt_46 rfl rfl ?_
  refine v_imul (pc := 47) dX11_contentAt_47 ?_
  refine v_iload_n (pc := 48) (i := 2) dX11_contentAt_48 rfl rfl ?_
  refine v_iadd (pc := 49) dX11_contentAt_49 ?_
  refine m_iald (pc := 50) (j := 8) dX11_contentAt_50 hF (fun x7 hF => ?_)
  refine v_goto (pc := 51) 55 dX11_contentAt_51 rfl ?_
  exact v_iret (pc := 55) dX11_contentAt_55 rfl rfl (okr hF fun q => q)
/-! BrailleDeskModel.isOn -/
theorem tX11_isOn {G : gG} (a0 : Nat) (h : hp) (a1 : Int32) (m : mm) (Q : hQ) (hF : okB (fX11_isOn a1 m) (pM gI Q a0 h)) : gS G mX11_isOn 3 0 0 [sr (some a0), si a1] (jn a0 h m) Q := by
  delta fX11_isOn at hF
  refine gS_at [some (sr (some a0)), some (si a1)] pl_X11 rfl (Nat.le_of_ble_eq_true rfl) rfl ?_
  refine v_aload_n (pc := 0) (i := 0) dX11_isOn_0 rfl rfl ?_
  refine v_iload_n (pc := 1) (i := 1) dX11_isOn_1 rfl rfl ?_
  refine chM_V (pc := 2) gI (as := [si a1]) (st := []) (N := mX11_asksFor) (k := 0) (n := 0) (k1 := 0) (n1 := 0) dX11_isOn_2 lkX11_315 caX11_asksFor cvX11_asksFor rfl rfl (fun Q1 hq => tX11_asksFor a0 h a1 m Q1 hq) ⟨by decide, by decide⟩ (Nat.le_of_ble_eq_true rfl) rfl hF (fun x1 m2 hF => ?_)
  show gV G mX11_isOn 3 Q 5 [some (sr (some a0)), some (si a1)] [si x1] (0) (0) (jn a0 h m2)
  refine v_if_eq (pc := 5) 21 dX11_isOn_5 rfl (fun hc => ?_) (fun hc => ?_)
  · replace hF := (okB_if hF).1 hc
    refine v_iconst (pc := 21) (v := (0 : Int32)) dX11_isOn_21 rfl ?_
    exact v_iret (pc := 22) dX11_isOn_22 rfl rfl (okr hF fun q => q)
  replace hF := (okB_if hF).2 hc
  refine v_aload_n (pc := 8) (i := 0) dX11_isOn_8 rfl rfl ?_
  refine m_getA (pc := 9) (j := 10) dX11_isOn_9 flX11_38 rfl (by decide) ?_
  refine v_iload_n (pc := 12) (i := 1) dX11_isOn_12 rfl rfl ?_
  refine m_zald (pc := 13) (j := 10) dX11_isOn_13 hF (fun x3 hF => ?_)
  refine v_if_eq (pc := 14) 21 dX11_isOn_14 rfl (fun hc => ?_) (fun hc => ?_)
  · replace hF := (okB_if hF).1 hc
    refine v_iconst (pc := 21) (v := (0 : Int32)) dX11_isOn_21 rfl ?_
    exact v_iret (pc := 22) dX11_isOn_22 rfl rfl (okr hF fun q => q)
  replace hF := (okB_if hF).2 hc
  refine v_iconst (pc := 17) (v := (1 : Int32)) dX11_isOn_17 rfl ?_
  refine v_goto (pc := 18) 22 dX11_isOn_18 rfl ?_
  exact v_iret (pc := 22) dX11_isOn_22 rfl rfl (okr hF fun q => q)
/-! BrailleDeskModel.presses -/
theorem tX11_presses {G : gG} (a0 : Nat) (h : hp) (a1 : Int32) (m : mm) (Q : hQ) (hF : okB (fX11_presses a1 m) (pM gI Q a0 h)) : gS G mX11_presses 3 0 0 [sr (some a0), si a1] (jn a0 h m) Q := by
  delta fX11_presses at hF
  refine gS_at [some (sr (some a0)), some (si a1)] pl_X11 rfl (Nat.le_of_ble_eq_true rfl) rfl ?_
  refine v_aload_n (pc := 0) (i := 0) dX11_presses_0 rfl rfl ?_
  refine v_iload_n (pc := 1) (i := 1) dX11_presses_1 rfl rfl ?_
  refine chM_V (pc := 2) gI (as := [si a1]) (st := []) (N := mX11_asksFor) (k := 0) (n := 0) (k1 := 0) (n1 := 0) dX11_presses_2 lkX11_315 caX11_asksFor cvX11_asksFor rfl rfl (fun Q1 hq => tX11_asksFor a0 h a1 m Q1 hq) ⟨by decide, by decide⟩ (Nat.le_of_ble_eq_true rfl) rfl hF (fun x1 m2 hF => ?_)
  show gV G mX11_presses 3 Q 5 [some (sr (some a0)), some (si a1)] [si x1] (0) (0) (jn a0 h m2)
  refine v_if_eq (pc := 5) 17 dX11_presses_5 rfl (fun hc => ?_) (fun hc => ?_)
  · replace hF := (okB_if hF).1 hc
    refine v_iconst (pc := 17) (v := (0 : Int32)) dX11_presses_17 rfl ?_
    exact v_iret (pc := 18) dX11_presses_18 rfl rfl (okr hF fun q => q)
  replace hF := (okB_if hF).2 hc
  refine v_aload_n (pc := 8) (i := 0) dX11_presses_8 rfl rfl ?_
  refine m_getA (pc := 9) (j := 11) dX11_presses_9 flX11_41 rfl (by decide) ?_
  refine v_iload_n (pc := 12) (i := 1) dX11_presses_12 rfl rfl ?_
  refine m_iald (pc := 13) (j := 11) dX11_presses_13 hF (fun x3 hF => ?_)
  refine v_goto (pc := 14) 18 dX11_presses_14 rfl ?_
  exact v_iret (pc := 18) dX11_presses_18 rfl rfl (okr hF fun q => q)
/-! BrailleDeskModel.isShown -/
theorem tX11_isShown {G : gG} (a0 : Nat) (h : hp) (a1 : Int32) (m : mm) (Q : hQ) (hF : okB (fX11_isShown a1 m) (pM gI Q a0 h)) : gS G mX11_isShown 3 0 0 [sr (some a0), si a1] (jn a0 h m) Q := by
  delta fX11_isShown at hF
  refine gS_at [some (sr (some a0)), some (si a1)] pl_X11 rfl (Nat.le_of_ble_eq_true rfl) rfl ?_
  refine v_aload_n (pc := 0) (i := 0) dX11_isShown_0 rfl rfl ?_
  refine v_iload_n (pc := 1) (i := 1) dX11_isShown_1 rfl rfl ?_
  refine chM_V (pc := 2) gI (as := [si a1]) (st := []) (N := mX11_asksFor) (k := 0) (n := 0) (k1 := 0) (n1 := 0) dX11_isShown_2 lkX11_315 caX11_asksFor cvX11_asksFor rfl rfl (fun Q1 hq => tX11_asksFor a0 h a1 m Q1 hq) ⟨by decide, by decide⟩ (Nat.le_of_ble_eq_true rfl) rfl hF (fun x1 m2 hF => ?_)
  show gV G mX11_isShown 3 Q 5 [some (sr (some a0)), some (si a1)] [si x1] (0) (0) (jn a0 h m2)
  refine v_if_eq (pc := 5) 20 dX11_isShown_5 rfl (fun hc => ?_) (fun hc => ?_)
  · replace hF := (okB_if hF).1 hc
    refine v_iconst (pc := 20) (v := (0 : Int32)) dX11_isShown_20 rfl ?_
    exact v_iret (pc := 21) dX11_isShown_21 rfl rfl (okr hF fun q => q)
  replace hF := (okB_if hF).2 hc
  refine v_aload_n (pc := 8) (i := 0) dX11_isShown_8 rfl rfl ?_
  refine v_iload_n (pc := 9) (i := 1) dX11_isShown_9 rfl rfl ?_
  refine cpM_V (pc := 10) gI (as := [si a1]) (st := []) (N := mX11_shows) (k := 0) (n := 0) (k1 := 0) (n1 := 0) dX11_isShown_10 lkX11_224 caX11_shows cvX11_shows rfl rfl (fun Q1 hq => tX11_shows a0 h a1 m2 Q1 hq) ⟨by decide, by decide⟩ (Nat.le_of_ble_eq_true rfl) rfl hF (fun x3 hF => ?_)
  show gV G mX11_isShown 3 Q 13 [some (sr (some a0)), some (si a1)] [si x3] (0) (0) (jn a0 h m2)
  refine v_if_eq (pc := 13) 20 dX11_isShown_13 rfl (fun hc => ?_) (fun hc => ?_)
  · replace hF := (okB_if hF).1 hc
    refine v_iconst (pc := 20) (v := (0 : Int32)) dX11_isShown_20 rfl ?_
    exact v_iret (pc := 21) dX11_isShown_21 rfl rfl (okr hF fun q => q)
  replace hF := (okB_if hF).2 hc
  refine v_iconst (pc := 16) (v := (1 : Int32)) dX11_isShown_16 rfl ?_
  refine v_goto (pc := 17) 21 dX11_isShown_17 rfl ?_
  exact v_iret (pc := 21) dX11_isShown_21 rfl rfl (okr hF fun q => q)
/-! BrailleDeskModel.level -/
theorem tX11_level {G : gG} (a0 : Nat) (h : hp) (a1 : Int32) (m : mm) (Q : hQ) (hF : okB (fX11_level a1 m) (pM gI Q a0 h)) : gS G mX11_level 3 0 0 [sr (some a0), si a1] (jn a0 h m) Q := by
  delta fX11_level at hF
  refine gS_at [some (sr (some a0)), some (si a1)] pl_X11 rfl (Nat.le_of_ble_eq_true rfl) rfl ?_
  refine v_aload_n (pc := 0) (i := 0) dX11_level_0 rfl rfl ?_
  refine v_iload_n (pc := 1) (i := 1) dX11_level_1 rfl rfl ?_
  refine chM_V (pc := 2) gI (as := [si a1]) (st := []) (N := mX11_asksFor) (k := 0) (n := 0) (k1 := 0) (n1 := 0) dX11_level_2 lkX11_315 caX11_asksFor cvX11_asksFor rfl rfl (fun Q1 hq => tX11_asksFor a0 h a1 m Q1 hq) ⟨by decide, by decide⟩ (Nat.le_of_ble_eq_true rfl) rfl hF (fun x1 m2 hF => ?_)
  show gV G mX11_level 3 Q 5 [some (sr (some a0)), some (si a1)] [si x1] (0) (0) (jn a0 h m2)
  refine v_if_eq (pc := 5) 16 dX11_level_5 rfl (fun hc => ?_) (fun hc => ?_)
  · replace hF := (okB_if hF).1 hc
    refine v_iconst (pc := 16) (v := (0 : Int32)) dX11_level_16 rfl ?_
    exact v_iret (pc := 17) dX11_level_17 rfl rfl (okr hF fun q => q)
  replace hF := (okB_if hF).2 hc
  refine v_aload_n (pc := 8) (i := 0) dX11_level_8 rfl rfl ?_
  refine v_iload_n (pc := 9) (i := 1) dX11_level_9 rfl rfl ?_
  refine cpM_V (pc := 10) gI (as := [si a1]) (st := []) (N := mX11_levelOf) (k := 0) (n := 0) (k1 := 0) (n1 := 0) dX11_level_10 lkX11_164 caX11_levelOf cvX11_levelOf rfl rfl (fun Q1 hq => tX11_levelOf a0 h a1 m2 Q1 hq) ⟨by decide, by decide⟩ (Nat.le_of_ble_eq_true rfl) rfl hF (fun x3 hF => ?_)
  show gV G mX11_level 3 Q 13 [some (sr (some a0)), some (si a1)] [si x3] (0) (0) (jn a0 h m2)
  refine v_goto (pc := 13) 17 dX11_level_13 rfl ?_
  exact v_iret (pc := 17) dX11_level_17 rfl rfl (okr hF fun q => q)
/-! BrailleDeskModel.reading -/
theorem tX11_reading {G : gG} (a0 : Nat) (h : hp)  (m : mm) (Q : hQ) (hF : okB (fX11_reading m) (pM gI Q a0 h)) : gS G mX11_reading 1 0 0 [sr (some a0)] (jn a0 h m) Q := by
  delta fX11_reading at hF
  refine gS_at [some (sr (some a0))] pl_X11 rfl (Nat.le_of_ble_eq_true rfl) rfl ?_
  refine v_aload_n (pc := 0) (i := 0) dX11_reading_0 rfl rfl ?_
  refine v_iconst (pc := 1) (v := (0 : Int32)) dX11_reading_1 rfl ?_
  refine m_putI (pc := 2) (j := 48) dX11_reading_2 flX11_111 rfl rfl rfl hF (fun m1 hF => ?_)
  refine v_aload_n (pc := 5) (i := 0) dX11_reading_5 rfl rfl ?_
  refine chM_V (pc := 6) gU (as := []) (st := []) (N := mX11_layOrder) (k := 0) (n := 0) (k1 := 0) (n1 := 0) dX11_reading_6 lkX11_125 caX11_layOrder cvX11_layOrder rfl rfl (fun Q1 hq => tX11_layOrder a0 h m1 Q1 hq) ⟨by decide, by decide⟩ (Nat.le_of_ble_eq_true rfl) rfl hF (fun x2 m3 hF => ?_)
  show gV G mX11_reading 1 Q 9 [some (sr (some a0))] [] (0) (0) (jn a0 h m3)
  refine v_aload_n (pc := 9) (i := 0) dX11_reading_9 rfl rfl ?_
  refine m_getI (pc := 10) (j := 50) dX11_reading_10 flX11_122 rfl rfl ?_
  exact v_iret (pc := 13) dX11_reading_13 rfl rfl (okr hF fun q => q)
