/-! ===== methods: their functions and rows ===== -/
theorem dX5_typeCharacter_0 : decode cX5_typeCharacter 0 = .ok (.iload_n 1, 1) := by decide +kernel
theorem dX5_typeCharacter_1 : decode cX5_typeCharacter 1 = .ok (.iconst (-1), 1) := by decide +kernel
theorem dX5_typeCharacter_2 : decode cX5_typeCharacter 2 = .ok (.if_icmp .ne 4, 3) := by decide +kernel
theorem dX5_typeCharacter_5 : decode cX5_typeCharacter 5 = .ok (.return_, 1) := by decide +kernel
theorem dX5_typeCharacter_6 : decode cX5_typeCharacter 6 = .ok (.aload_n 0, 1) := by decide +kernel
theorem dX5_typeCharacter_7 : decode cX5_typeCharacter 7 = .ok (.getfield 48, 3) := by decide +kernel
theorem dX5_typeCharacter_10 : decode cX5_typeCharacter 10 = .ok (.getfield 242, 3) := by decide +kernel
theorem dX5_typeCharacter_13 : decode cX5_typeCharacter 13 = .ok (.invokevirtual 245, 3) := by decide +kernel
theorem dX5_typeCharacter_16 : decode cX5_typeCharacter 16 = .ok (.bipush 12, 2) := by decide +kernel
theorem dX5_typeCharacter_18 : decode cX5_typeCharacter 18 = .ok (.if_icmp .lt 10, 3) := by decide +kernel
theorem dX5_typeCharacter_21 : decode cX5_typeCharacter 21 = .ok (.aload_n 0, 1) := by decide +kernel
theorem dX5_typeCharacter_22 : decode cX5_typeCharacter 22 = .ok (.ldc 246, 2) := by decide +kernel
theorem dX5_typeCharacter_24 : decode cX5_typeCharacter 24 = .ok (.invokevirtual 161, 3) := by decide +kernel
theorem dX5_typeCharacter_27 : decode cX5_typeCharacter 27 = .ok (.return_, 1) := by decide +kernel
theorem dX5_typeCharacter_28 : decode cX5_typeCharacter 28 = .ok (.aload_n 0, 1) := by decide +kernel
theorem dX5_typeCharacter_29 : decode cX5_typeCharacter 29 = .ok (.getfield 48, 3) := by decide +kernel
theorem dX5_typeCharacter_32 : decode cX5_typeCharacter 32 = .ok (.getfield 242, 3) := by decide +kernel
theorem dX5_typeCharacter_35 : decode cX5_typeCharacter 35 = .ok (.iload_n 1, 1) := by decide +kernel
theorem dX5_typeCharacter_36 : decode cX5_typeCharacter 36 = .ok (.invokevirtual 248, 3) := by decide +kernel
theorem dX5_typeCharacter_39 : decode cX5_typeCharacter 39 = .ok (.aload_n 0, 1) := by decide +kernel
theorem dX5_typeCharacter_40 : decode cX5_typeCharacter 40 = .ok (.getfield 29, 3) := by decide +kernel
theorem dX5_typeCharacter_43 : decode cX5_typeCharacter 43 = .ok (.iload_n 1, 1) := by decide +kernel
theorem dX5_typeCharacter_44 : decode cX5_typeCharacter 44 = .ok (.invokevirtual 251, 3) := by decide +kernel
theorem dX5_typeCharacter_47 : decode cX5_typeCharacter 47 = .ok (.aload_n 0, 1) := by decide +kernel
theorem dX5_typeCharacter_48 : decode cX5_typeCharacter 48 = .ok (.iload_n 1, 1) := by decide +kernel
theorem dX5_typeCharacter_49 : decode cX5_typeCharacter 49 = .ok (.invokevirtual 254, 3) := by decide +kernel
theorem dX5_typeCharacter_52 : decode cX5_typeCharacter 52 = .ok (.return_, 1) := by decide +kernel
theorem dX5_type_0 : decode cX5_type 0 = .ok (.aload_n 0, 1) := by decide +kernel
theorem dX5_type_1 : decode cX5_type 1 = .ok (.getfield 29, 3) := by decide +kernel
theorem dX5_type_4 : decode cX5_type 4 = .ok (.iload_n 1, 1) := by decide +kernel
theorem dX5_type_5 : decode cX5_type 5 = .ok (.invokevirtual 228, 3) := by decide +kernel
theorem dX5_type_8 : decode cX5_type 8 = .ok (.ifCond .eq 4, 3) := by decide +kernel
theorem dX5_type_11 : decode cX5_type 11 = .ok (.return_, 1) := by decide +kernel
theorem dX5_type_12 : decode cX5_type 12 = .ok (.iload_n 1, 1) := by decide +kernel
theorem dX5_type_13 : decode cX5_type 13 = .ok (.bipush 64, 2) := by decide +kernel
theorem dX5_type_15 : decode cX5_type 15 = .ok (.if_icmp .ne 10, 3) := by decide +kernel
theorem dX5_type_18 : decode cX5_type 18 = .ok (.aload_n 0, 1) := by decide +kernel
theorem dX5_type_19 : decode cX5_type 19 = .ok (.invokevirtual 232, 3) := by decide +kernel
theorem dX5_type_22 : decode cX5_type 22 = .ok (.goto 47, 3) := by decide +kernel
theorem dX5_type_25 : decode cX5_type 25 = .ok (.iload_n 1, 1) := by decide +kernel
theorem dX5_type_26 : decode cX5_type 26 = .ok (.sipush 128, 3) := by decide +kernel
theorem dX5_type_29 : decode cX5_type 29 = .ok (.if_icmp .ne 28, 3) := by decide +kernel
theorem dX5_type_32 : decode cX5_type 32 = .ok (.aload_n 0, 1) := by decide +kernel
theorem dX5_type_33 : decode cX5_type 33 = .ok (.getfield 29, 3) := by decide +kernel
theorem dX5_type_36 : decode cX5_type 36 = .ok (.invokevirtual 79, 3) := by decide +kernel
theorem dX5_type_39 : decode cX5_type 39 = .ok (.aload_n 0, 1) := by decide +kernel
theorem dX5_type_40 : decode cX5_type 40 = .ok (.getfield 15, 3) := by decide +kernel
theorem dX5_type_43 : decode cX5_type 43 = .ok (.aload_n 0, 1) := by decide +kernel
theorem dX5_type_44 : decode cX5_type 44 = .ok (.aload_n 0, 1) := by decide +kernel
theorem dX5_type_45 : decode cX5_type 45 = .ok (.getfield 48, 3) := by decide +kernel
theorem dX5_type_48 : decode cX5_type 48 = .ok (.invokevirtual 154, 3) := by decide +kernel
theorem dX5_type_51 : decode cX5_type 51 = .ok (.invokevirtual 158, 3) := by decide +kernel
theorem dX5_type_54 : decode cX5_type 54 = .ok (.goto 15, 3) := by decide +kernel
theorem dX5_type_57 : decode cX5_type 57 = .ok (.aload_n 0, 1) := by decide +kernel
theorem dX5_type_58 : decode cX5_type 58 = .ok (.aload_n 0, 1) := by decide +kernel
theorem dX5_type_59 : decode cX5_type 59 = .ok (.getfield 29, 3) := by decide +kernel
theorem dX5_type_62 : decode cX5_type 62 = .ok (.iload_n 1, 1) := by decide +kernel
theorem dX5_type_63 : decode cX5_type 63 = .ok (.invokevirtual 235, 3) := by decide +kernel
theorem dX5_type_66 : decode cX5_type 66 = .ok (.invokevirtual 239, 3) := by decide +kernel
theorem dX5_type_69 : decode cX5_type 69 = .ok (.return_, 1) := by decide +kernel
theorem dX5_goToKind_0 : decode cX5_goToKind 0 = .ok (.iconst 0, 1) := by decide +kernel
theorem dX5_goToKind_1 : decode cX5_goToKind 1 = .ok (.istore_n 2, 1) := by decide +kernel
theorem dX5_goToKind_2 : decode cX5_goToKind 2 = .ok (.iload_n 2, 1) := by decide +kernel
theorem dX5_goToKind_3 : decode cX5_goToKind 3 = .ok (.bipush 7, 2) := by decide +kernel
theorem dX5_goToKind_5 : decode cX5_goToKind 5 = .ok (.if_icmp .gt 39, 3) := by decide +kernel
theorem dX5_goToKind_8 : decode cX5_goToKind 8 = .ok (.iload_n 1, 1) := by decide +kernel
theorem dX5_goToKind_9 : decode cX5_goToKind 9 = .ok (.iload_n 2, 1) := by decide +kernel
theorem dX5_goToKind_10 : decode cX5_goToKind 10 = .ok (.invokestatic 199, 3) := by decide +kernel
theorem dX5_goToKind_13 : decode cX5_goToKind 13 = .ok (.invokestatic 203, 3) := by decide +kernel
theorem dX5_goToKind_16 : decode cX5_goToKind 16 = .ok (.if_icmp .ne 22, 3) := by decide +kernel
theorem dX5_goToKind_19 : decode cX5_goToKind 19 = .ok (.aload_n 0, 1) := by decide +kernel
theorem dX5_goToKind_20 : decode cX5_goToKind 20 = .ok (.aload_n 0, 1) := by decide +kernel
theorem dX5_goToKind_21 : decode cX5_goToKind 21 = .ok (.getfield 9, 3) := by decide +kernel
theorem dX5_goToKind_24 : decode cX5_goToKind 24 = .ok (.aload_n 0, 1) := by decide +kernel
theorem dX5_goToKind_25 : decode cX5_goToKind 25 = .ok (.getfield 48, 3) := by decide +kernel
theorem dX5_goToKind_28 : decode cX5_goToKind 28 = .ok (.iload_n 2, 1) := by decide +kernel
theorem dX5_goToKind_29 : decode cX5_goToKind 29 = .ok (.invokevirtual 209, 3) := by decide +kernel
theorem dX5_goToKind_32 : decode cX5_goToKind 32 = .ok (.ldc 122, 2) := by decide +kernel
theorem dX5_goToKind_34 : decode cX5_goToKind 34 = .ok (.invokevirtual 115, 3) := by decide +kernel
theorem dX5_goToKind_37 : decode cX5_goToKind 37 = .ok (.return_, 1) := by decide +kernel
theorem dX5_goToKind_38 : decode cX5_goToKind 38 = .ok (.iinc 2 1, 3) := by decide +kernel
theorem dX5_goToKind_41 : decode cX5_goToKind 41 = .ok (.goto (-39), 3) := by decide +kernel
theorem dX5_goToKind_44 : decode cX5_goToKind 44 = .ok (.return_, 1) := by decide +kernel
theorem dX5_obey_0 : decode cX5_obey 0 = .ok (.iload_n 1, 1) := by decide +kernel
theorem dX5_obey_1 : decode cX5_obey 1 = .ok (.sipush 256, 3) := by decide +kernel
theorem dX5_obey_4 : decode cX5_obey 4 = .ok (.if_icmp .le 15, 3) := by decide +kernel
theorem dX5_obey_7 : decode cX5_obey 7 = .ok (.aload_n 0, 1) := by decide +kernel
theorem dX5_obey_8 : decode cX5_obey 8 = .ok (.iload_n 1, 1) := by decide +kernel
theorem dX5_obey_9 : decode cX5_obey 9 = .ok (.sipush 256, 3) := by decide +kernel
theorem dX5_obey_12 : decode cX5_obey 12 = .ok (.isub, 1) := by decide +kernel
theorem dX5_obey_13 : decode cX5_obey 13 = .ok (.invokevirtual 97, 3) := by decide +kernel
theorem dX5_obey_16 : decode cX5_obey 16 = .ok (.goto 26, 3) := by decide +kernel
theorem dX5_obey_19 : decode cX5_obey 19 = .ok (.aload_n 0, 1) := by decide +kernel
theorem dX5_obey_20 : decode cX5_obey 20 = .ok (.getfield 29, 3) := by decide +kernel
theorem dX5_obey_23 : decode cX5_obey 23 = .ok (.getfield 55, 3) := by decide +kernel
theorem dX5_obey_26 : decode cX5_obey 26 = .ok (.ifCond .eq 11, 3) := by decide +kernel
theorem dX5_obey_29 : decode cX5_obey 29 = .ok (.aload_n 0, 1) := by decide +kernel
theorem dX5_obey_30 : decode cX5_obey 30 = .ok (.iload_n 1, 1) := by decide +kernel
theorem dX5_obey_31 : decode cX5_obey 31 = .ok (.invokevirtual 100, 3) := by decide +kernel
theorem dX5_obey_34 : decode cX5_obey 34 = .ok (.goto 8, 3) := by decide +kernel
theorem dX5_obey_37 : decode cX5_obey 37 = .ok (.aload_n 0, 1) := by decide +kernel
theorem dX5_obey_38 : decode cX5_obey 38 = .ok (.iload_n 1, 1) := by decide +kernel
theorem dX5_obey_39 : decode cX5_obey 39 = .ok (.invokevirtual 103, 3) := by decide +kernel
theorem dX5_obey_42 : decode cX5_obey 42 = .ok (.aload_n 0, 1) := by decide +kernel
theorem dX5_obey_43 : decode cX5_obey 43 = .ok (.getfield 22, 3) := by decide +kernel
theorem dX5_obey_46 : decode cX5_obey 46 = .ok (.aload_n 0, 1) := by decide +kernel
theorem dX5_obey_47 : decode cX5_obey 47 = .ok (.getfield 48, 3) := by decide +kernel
theorem dX5_obey_50 : decode cX5_obey 50 = .ok (.aload_n 0, 1) := by decide +kernel
theorem dX5_obey_51 : decode cX5_obey 51 = .ok (.getfield 29, 3) := by decide +kernel
theorem dX5_obey_54 : decode cX5_obey 54 = .ok (.getfield 55, 3) := by decide +kernel
theorem dX5_obey_57 : decode cX5_obey 57 = .ok (.invokevirtual 51, 3) := by decide +kernel
theorem dX5_obey_60 : decode cX5_obey 60 = .ok (.return_, 1) := by decide +kernel
theorem dX10_init_0 : decode cX10_init 0 = .ok (.aload_n 0, 1) := by decide +kernel
theorem dX10_init_1 : decode cX10_init 1 = .ok (.invokespecial 1, 3) := by decide +kernel
theorem dX10_init_4 : decode cX10_init 4 = .ok (.aload_n 0, 1) := by decide +kernel
theorem dX10_init_5 : decode cX10_init 5 = .ok (.new 7, 3) := by decide +kernel
theorem dX10_init_8 : decode cX10_init 8 = .ok (.dup, 1) := by decide +kernel
theorem dX10_init_9 : decode cX10_init 9 = .ok (.invokespecial 9, 3) := by decide +kernel
theorem dX10_init_12 : decode cX10_init 12 = .ok (.putfield 10, 3) := by decide +kernel
theorem dX10_init_15 : decode cX10_init 15 = .ok (.aload_n 0, 1) := by decide +kernel
theorem dX10_init_16 : decode cX10_init 16 = .ok (.new 16, 3) := by decide +kernel
theorem dX10_init_19 : decode cX10_init 19 = .ok (.dup, 1) := by decide +kernel
theorem dX10_init_20 : decode cX10_init 20 = .ok (.invokespecial 18, 3) := by decide +kernel
theorem dX10_init_23 : decode cX10_init 23 = .ok (.putfield 19, 3) := by decide +kernel
theorem dX10_init_26 : decode cX10_init 26 = .ok (.aload_n 0, 1) := by decide +kernel
theorem dX10_init_27 : decode cX10_init 27 = .ok (.new 23, 3) := by decide +kernel
theorem dX10_init_30 : decode cX10_init 30 = .ok (.dup, 1) := by decide +kernel
theorem dX10_init_31 : decode cX10_init 31 = .ok (.aload_n 0, 1) := by decide +kernel
theorem dX10_init_32 : decode cX10_init 32 = .ok (.getfield 10, 3) := by decide +kernel
theorem dX10_init_35 : decode cX10_init 35 = .ok (.aload_n 0, 1) := by decide +kernel
theorem dX10_init_36 : decode cX10_init 36 = .ok (.getfield 19, 3) := by decide +kernel
theorem dX10_init_39 : decode cX10_init 39 = .ok (.invokespecial 25, 3) := by decide +kernel
theorem dX10_init_42 : decode cX10_init 42 = .ok (.putfield 28, 3) := by decide +kernel
theorem dX10_init_45 : decode cX10_init 45 = .ok (.aload_n 0, 1) := by decide +kernel
theorem dX10_init_46 : decode cX10_init 46 = .ok (.new 32, 3) := by decide +kernel
theorem dX10_init_49 : decode cX10_init 49 = .ok (.dup, 1) := by decide +kernel
theorem dX10_init_50 : decode cX10_init 50 = .ok (.aload_n 0, 1) := by decide +kernel
theorem dX10_init_51 : decode cX10_init 51 = .ok (.getfield 10, 3) := by decide +kernel
theorem dX10_init_54 : decode cX10_init 54 = .ok (.aload_n 0, 1) := by decide +kernel
theorem dX10_init_55 : decode cX10_init 55 = .ok (.getfield 19, 3) := by decide +kernel
theorem dX10_init_58 : decode cX10_init 58 = .ok (.invokespecial 34, 3) := by decide +kernel
theorem dX10_init_61 : decode cX10_init 61 = .ok (.putfield 35, 3) := by decide +kernel
theorem dX10_init_64 : decode cX10_init 64 = .ok (.aload_n 0, 1) := by decide +kernel
theorem dX10_init_65 : decode cX10_init 65 = .ok (.new 39, 3) := by decide +kernel
theorem dX10_init_68 : decode cX10_init 68 = .ok (.dup, 1) := by decide +kernel
theorem dX10_init_69 : decode cX10_init 69 = .ok (.bipush 12, 2) := by decide +kernel
theorem dX10_init_71 : decode cX10_init 71 = .ok (.invokespecial 41, 3) := by decide +kernel
theorem dX10_init_74 : decode cX10_init 74 = .ok (.putfield 44, 3) := by decide +kernel
theorem dX10_init_77 : decode cX10_init 77 = .ok (.return_, 1) := by decide +kernel
theorem dX10_isCharacter_0 : decode cX10_isCharacter 0 = .ok (.iload_n 0, 1) := by decide +kernel
theorem dX10_isCharacter_1 : decode cX10_isCharacter 1 = .ok (.bipush 32, 2) := by decide +kernel
theorem dX10_isCharacter_3 : decode cX10_isCharacter 3 = .ok (.if_icmp .lt 9, 3) := by decide +kernel
theorem dX10_isCharacter_6 : decode cX10_isCharacter 6 = .ok (.iload_n 0, 1) := by decide +kernel
theorem dX10_isCharacter_7 : decode cX10_isCharacter 7 = .ok (.bipush 126, 2) := by decide +kernel
theorem dX10_isCharacter_9 : decode cX10_isCharacter 9 = .ok (.if_icmp .le 17, 3) := by decide +kernel
theorem dX10_isCharacter_12 : decode cX10_isCharacter 12 = .ok (.iload_n 0, 1) := by decide +kernel
theorem dX10_isCharacter_13 : decode cX10_isCharacter 13 = .ok (.ldc_w 334, 3) := by decide +kernel
theorem dX10_isCharacter_16 : decode cX10_isCharacter 16 = .ok (.if_icmp .lt 14, 3) := by decide +kernel
theorem dX10_isCharacter_19 : decode cX10_isCharacter 19 = .ok (.iload_n 0, 1) := by decide +kernel
theorem dX10_isCharacter_20 : decode cX10_isCharacter 20 = .ok (.ldc_w 335, 3) := by decide +kernel
theorem dX10_isCharacter_23 : decode cX10_isCharacter 23 = .ok (.if_icmp .gt 7, 3) := by decide +kernel
theorem dX10_isCharacter_26 : decode cX10_isCharacter 26 = .ok (.iconst 1, 1) := by decide +kernel
theorem dX10_isCharacter_27 : decode cX10_isCharacter 27 = .ok (.goto 4, 3) := by decide +kernel
theorem dX10_isCharacter_30 : decode cX10_isCharacter 30 = .ok (.iconst 0, 1) := by decide +kernel
theorem dX10_isCharacter_31 : decode cX10_isCharacter 31 = .ok (.ireturn, 1) := by decide +kernel
theorem dX10_draft_0 : decode cX10_draft 0 = .ok (.iload_n 1, 1) := by decide +kernel
theorem dX10_draft_1 : decode cX10_draft 1 = .ok (.invokestatic 48, 3) := by decide +kernel
theorem dX10_draft_4 : decode cX10_draft 4 = .ok (.ifCond .ne 13, 3) := by decide +kernel
theorem dX10_draft_7 : decode cX10_draft 7 = .ok (.new 52, 3) := by decide +kernel
theorem dX10_draft_10 : decode cX10_draft 10 = .ok (.dup, 1) := by decide +kernel
theorem dX10_draft_11 : decode cX10_draft 11 = .ok (.ldc 54, 2) := by decide +kernel
theorem dX10_draft_13 : decode cX10_draft 13 = .ok (.invokespecial 56, 3) := by decide +kernel
theorem dX10_draft_16 : decode cX10_draft 16 = .ok (.athrow, 1) := by decide +kernel
theorem dX10_draft_17 : decode cX10_draft 17 = .ok (.aload_n 0, 1) := by decide +kernel
theorem dX10_draft_18 : decode cX10_draft 18 = .ok (.getfield 44, 3) := by decide +kernel
theorem dX10_draft_21 : decode cX10_draft 21 = .ok (.invokevirtual 59, 3) := by decide +kernel
theorem dX10_draft_24 : decode cX10_draft 24 = .ok (.bipush 12, 2) := by decide +kernel
theorem dX10_draft_26 : decode cX10_draft 26 = .ok (.if_icmp .lt 13, 3) := by decide +kernel
theorem dX10_draft_29 : decode cX10_draft 29 = .ok (.new 63, 3) := by decide +kernel
theorem dX10_draft_32 : decode cX10_draft 32 = .ok (.dup, 1) := by decide +kernel
theorem dX10_draft_33 : decode cX10_draft 33 = .ok (.ldc 65, 2) := by decide +kernel
theorem dX10_draft_35 : decode cX10_draft 35 = .ok (.invokespecial 67, 3) := by decide +kernel
theorem dX10_draft_38 : decode cX10_draft 38 = .ok (.athrow, 1) := by decide +kernel
theorem dX10_draft_39 : decode cX10_draft 39 = .ok (.aload_n 0, 1) := by decide +kernel
theorem dX10_draft_40 : decode cX10_draft 40 = .ok (.getfield 44, 3) := by decide +kernel
theorem dX10_draft_43 : decode cX10_draft 43 = .ok (.iload_n 1, 1) := by decide +kernel
theorem dX10_draft_44 : decode cX10_draft 44 = .ok (.invokevirtual 68, 3) := by decide +kernel
theorem dX10_draft_47 : decode cX10_draft 47 = .ok (.aload_n 0, 1) := by decide +kernel
theorem dX10_draft_48 : decode cX10_draft 48 = .ok (.getfield 44, 3) := by decide +kernel
theorem dX10_draft_51 : decode cX10_draft 51 = .ok (.invokevirtual 59, 3) := by decide +kernel
theorem dX10_draft_54 : decode cX10_draft 54 = .ok (.ireturn, 1) := by decide +kernel
theorem dX10_existing_0 : decode cX10_existing 0 = .ok (.aload_n 0, 1) := by decide +kernel
theorem dX10_existing_1 : decode cX10_existing 1 = .ok (.getfield 10, 3) := by decide +kernel
theorem dX10_existing_4 : decode cX10_existing 4 = .ok (.iload_n 1, 1) := by decide +kernel
theorem dX10_existing_5 : decode cX10_existing 5 = .ok (.invokevirtual 313, 3) := by decide +kernel
theorem dX10_existing_8 : decode cX10_existing 8 = .ok (.astore_n 2, 1) := by decide +kernel
theorem dX10_existing_9 : decode cX10_existing 9 = .ok (.aload_n 2, 1) := by decide +kernel
theorem dX10_existing_10 : decode cX10_existing 10 = .ok (.ifnonnull 14, 3) := by decide +kernel
theorem dX10_existing_13 : decode cX10_existing 13 = .ok (.new 185, 3) := by decide +kernel
theorem dX10_existing_16 : decode cX10_existing 16 = .ok (.dup, 1) := by decide +kernel
theorem dX10_existing_17 : decode cX10_existing 17 = .ok (.ldc_w 316, 3) := by decide +kernel
theorem dX10_existing_20 : decode cX10_existing 20 = .ok (.invokespecial 189, 3) := by decide +kernel
theorem dX10_existing_23 : decode cX10_existing 23 = .ok (.athrow, 1) := by decide +kernel
theorem dX10_existing_24 : decode cX10_existing 24 = .ok (.aload_n 2, 1) := by decide +kernel
theorem dX10_existing_25 : decode cX10_existing 25 = .ok (.areturn, 1) := by decide +kernel
theorem dX10_refuseManyAlerts_0 : decode cX10_refuseManyAlerts 0 = .ok (.aload_n 0, 1) := by decide +kernel
theorem dX10_refuseManyAlerts_1 : decode cX10_refuseManyAlerts 1 = .ok (.getfield 19, 3) := by decide +kernel
theorem dX10_refuseManyAlerts_4 : decode cX10_refuseManyAlerts 4 = .ok (.iconst 2, 1) := by decide +kernel
theorem dX10_refuseManyAlerts_5 : decode cX10_refuseManyAlerts 5 = .ok (.invokevirtual 299, 3) := by decide +kernel
theorem dX10_refuseManyAlerts_8 : decode cX10_refuseManyAlerts 8 = .ok (.bipush 20, 2) := by decide +kernel
theorem dX10_refuseManyAlerts_10 : decode cX10_refuseManyAlerts 10 = .ok (.if_icmp .lt 14, 3) := by decide +kernel
theorem dX10_refuseManyAlerts_13 : decode cX10_refuseManyAlerts 13 = .ok (.new 63, 3) := by decide +kernel
theorem dX10_refuseManyAlerts_16 : decode cX10_refuseManyAlerts 16 = .ok (.dup, 1) := by decide +kernel
theorem dX10_refuseManyAlerts_17 : decode cX10_refuseManyAlerts 17 = .ok (.ldc_w 320, 3) := by decide +kernel
theorem dX10_refuseManyAlerts_20 : decode cX10_refuseManyAlerts 20 = .ok (.invokespecial 67, 3) := by decide +kernel
theorem dX10_refuseManyAlerts_23 : decode cX10_refuseManyAlerts 23 = .ok (.athrow, 1) := by decide +kernel
theorem dX10_refuseManyAlerts_24 : decode cX10_refuseManyAlerts 24 = .ok (.return_, 1) := by decide +kernel
abbrev mX5_typeCharacter : gM := (yX5_typeCharacter, cX5_typeCharacter, 2, (Option.none : Option FieldType), [])
theorem caX5_typeCharacter : cal mX5_typeCharacter 1 := ⟨xw 775 (by decide +kernel) rfl, xw 36 (by decide +kernel) rfl, by decide, by decide +kernel⟩
theorem cvX5_typeCharacter : calV mX5_typeCharacter := ⟨xw 774 (by decide +kernel) rfl, xw 17 (by decide +kernel) rfl⟩
abbrev mX5_type : gM := (yX5_type, cX5_type, 2, (Option.none : Option FieldType), [])
theorem caX5_type : cal mX5_type 1 := ⟨xw 741 (by decide +kernel) rfl, xw 36 (by decide +kernel) rfl, by decide, by decide +kernel⟩
theorem cvX5_type : calV mX5_type := ⟨xw 740 (by decide +kernel) rfl, xw 14 (by decide +kernel) rfl⟩
abbrev mX5_goToKind : gM := (yX5_goToKind, cX5_goToKind, 3, (Option.none : Option FieldType), [])
theorem caX5_goToKind : cal mX5_goToKind 1 := ⟨xw 786 (by decide +kernel) rfl, xw 36 (by decide +kernel) rfl, by decide, by decide +kernel⟩
theorem cvX5_goToKind : calV mX5_goToKind := ⟨xw 785 (by decide +kernel) rfl, xw 18 (by decide +kernel) rfl⟩
abbrev mX5_obey : gM := (yX5_obey, cX5_obey, 2, (Option.none : Option FieldType), [])
theorem caX5_obey : cal mX5_obey 1 := ⟨xw 562 (by decide +kernel) rfl, xw 36 (by decide +kernel) rfl, by decide, by decide +kernel⟩
theorem cvX5_obey : calV mX5_obey := ⟨xw 560 (by decide +kernel) rfl, xw 561 (by decide +kernel) rfl⟩
abbrev mX10_init : gM := (yX10_init, cX10_init, 1, (Option.none : Option FieldType), [])
theorem caX10_init : cal mX10_init 0 := ⟨xw 54 (by decide +kernel) rfl, xw 29 (by decide +kernel) rfl, by decide, by decide +kernel⟩
theorem ciX10_init : Cond.instanceMethod yX10_init ∈ XW := xw 53 (by decide +kernel) rfl
abbrev mX10_isCharacter : gM := (yX10_isCharacter, cX10_isCharacter, 1, (Option.some FieldType.boolean), [])
theorem caX10_isCharacter : cal mX10_isCharacter 1 := ⟨xw 1256 (by decide +kernel) rfl, xw 29 (by decide +kernel) rfl, by decide, by decide +kernel⟩
theorem csX10_isCharacter : Cond.static yX10_isCharacter ∈ XW := xw 1255 (by decide +kernel) rfl
abbrev mX10_draft : gM := (yX10_draft, cX10_draft, 2, (Option.some FieldType.int), [])
theorem caX10_draft : cal mX10_draft 1 := ⟨xw 1253 (by decide +kernel) rfl, xw 29 (by decide +kernel) rfl, by decide, by decide +kernel⟩
theorem cvX10_draft : calV mX10_draft := ⟨xw 1251 (by decide +kernel) rfl, xw 1252 (by decide +kernel) rfl⟩
abbrev mX10_existing : gM := (yX10_existing, cX10_existing, 3, (Option.some (FieldType.object "BrailleDesk$Element")), [])
theorem caX10_existing : cal mX10_existing 1 := ⟨xw 962 (by decide +kernel) rfl, xw 29 (by decide +kernel) rfl, by decide, by decide +kernel⟩
theorem cvX10_existing : calV mX10_existing := ⟨xw 961 (by decide +kernel) rfl, xw 23 (by decide +kernel) rfl⟩
abbrev mX10_refuseManyAlerts : gM := (yX10_refuseManyAlerts, cX10_refuseManyAlerts, 1, (Option.none : Option FieldType), [])
theorem caX10_refuseManyAlerts : cal mX10_refuseManyAlerts 0 := ⟨xw 994 (by decide +kernel) rfl, xw 29 (by decide +kernel) rfl, by decide, by decide +kernel⟩
theorem cvX10_refuseManyAlerts : calV mX10_refuseManyAlerts := ⟨xw 993 (by decide +kernel) rfl, xw 24 (by decide +kernel) rfl⟩
theorem lkX5_251 : Cond.methodLink RX5 251 yX8_typed ∈ XW := xw 777 (by decide +kernel) rfl
theorem lkX5_228 : Cond.methodLink RX5 228 yX8_takesSign ∈ XW := xw 742 (by decide +kernel) rfl
theorem lkX5_235 : Cond.methodLink RX5 235 yX8_characterOf ∈ XW := xw 762 (by decide +kernel) rfl
theorem lkX5_239 : Cond.methodLink RX5 239 yX5_typeCharacter ∈ XW := xw 772 (by decide +kernel) rfl
theorem lkX5_232 : Cond.methodLink RX5 232 yX5_takeBack ∈ XW := xw 746 (by decide +kernel) rfl
theorem lkX5_199 : Cond.methodLink RX5 199 yX2_kindWord ∈ XW := xw 787 (by decide +kernel) rfl
theorem lkX5_203 : Cond.methodLink RX5 203 yX0_firstPoints ∈ XW := xw 788 (by decide +kernel) rfl
theorem lkX5_209 : Cond.methodLink RX5 209 yX7_nextOfKind ∈ XW := xw 789 (by decide +kernel) rfl
theorem lkX5_103 : Cond.methodLink RX5 103 yX5_goToKind ∈ XW := xw 783 (by decide +kernel) rfl
theorem lkX5_100 : Cond.methodLink RX5 100 yX5_type ∈ XW := xw 738 (by decide +kernel) rfl
theorem lkX5_97 : Cond.methodLink RX5 97 yX5_command ∈ XW := xw 563 (by decide +kernel) rfl
theorem lkX10_1 : Cond.methodLink RX10 1 objectInit ∈ XW := xw 55 (by decide +kernel) rfl
theorem ccX10_7 : Cond.classLink RX10 7 (hk_C 6) ∈ XW := xw 58 (by decide +kernel) rfl
theorem ins_6 : Cond.instantiable (hk_C 6) (hk_N 6) ∈ XW := xw 59 (by decide +kernel) rfl
theorem ini_6 : Cond.initialized (hk_C 6) ∈ XW := xw 30 (by decide +kernel) rfl
theorem lkX10_9 : Cond.methodLink RX10 9 yX7_init ∈ XW := xw 60 (by decide +kernel) rfl
theorem flX10_10 : fl RX10 10 9 0 := ⟨by decide, by decide, xw 451 (by decide +kernel) rfl⟩
theorem ccX10_16 : Cond.classLink RX10 16 (hk_C 8) ∈ XW := xw 180 (by decide +kernel) rfl
theorem ins_8 : Cond.instantiable (hk_C 8) (hk_N 8) ∈ XW := xw 181 (by decide +kernel) rfl
theorem ini_8 : Cond.initialized (hk_C 8) ∈ XW := xw 33 (by decide +kernel) rfl
theorem lkX10_18 : Cond.methodLink RX10 18 yX9_init ∈ XW := xw 182 (by decide +kernel) rfl
theorem flX10_19 : fl RX10 19 9 1 := ⟨by decide, by decide, xw 452 (by decide +kernel) rfl⟩
theorem ccX10_23 : Cond.classLink RX10 23 (hk_C 5) ∈ XW := xw 239 (by decide +kernel) rfl
theorem ins_5 : Cond.instantiable (hk_C 5) (hk_N 5) ∈ XW := xw 240 (by decide +kernel) rfl
theorem ini_5 : Cond.initialized (hk_C 5) ∈ XW := xw 35 (by decide +kernel) rfl
theorem lkX10_25 : Cond.methodLink RX10 25 yX6_init ∈ XW := xw 241 (by decide +kernel) rfl
theorem flX10_28 : fl RX10 28 9 2 := ⟨by decide, by decide, xw 453 (by decide +kernel) rfl⟩
theorem ccX10_32 : Cond.classLink RX10 32 (hk_C 4) ∈ XW := xw 263 (by decide +kernel) rfl
theorem ins_4 : Cond.instantiable (hk_C 4) (hk_N 4) ∈ XW := xw 264 (by decide +kernel) rfl
theorem ini_4 : Cond.initialized (hk_C 4) ∈ XW := xw 36 (by decide +kernel) rfl
theorem lkX10_34 : Cond.methodLink RX10 34 yX5_init ∈ XW := xw 265 (by decide +kernel) rfl
theorem flX10_35 : fl RX10 35 9 3 := ⟨by decide, by decide, xw 454 (by decide +kernel) rfl⟩
theorem ccX10_39 : Cond.classLink RX10 39 (hk_C 0) ∈ XW := xw 449 (by decide +kernel) rfl
theorem lkX10_41 : Cond.methodLink RX10 41 yX1_init ∈ XW := xw 450 (by decide +kernel) rfl
theorem flX10_44 : fl RX10 44 9 4 := ⟨by decide, by decide, xw 455 (by decide +kernel) rfl⟩
theorem pl_X10 : plainName RX10 = true := by decide +kernel
theorem ctX10_334 : Cond.constant RX10 334 (119040 : Int32) ∈ XW := xw 1257 (by decide +kernel) rfl
theorem ctX10_335 : Cond.constant RX10 335 (119295 : Int32) ∈ XW := xw 1258 (by decide +kernel) rfl
theorem lkX10_48 : Cond.methodLink RX10 48 yX10_isCharacter ∈ XW := xw 1254 (by decide +kernel) rfl
theorem lkX10_59 : Cond.methodLink RX10 59 yX1_size ∈ XW := xw 1100 (by decide +kernel) rfl
theorem lkX10_68 : Cond.methodLink RX10 68 yX1_put ∈ XW := xw 1261 (by decide +kernel) rfl
theorem tnames : ∀ n ∈ ["java/lang/RuntimeException", "java/lang/Exception"], Bundle.fit n = true := by decide +kernel
theorem tfit_IllegalStateException : Bundle.fit "java/lang/IllegalStateException" = true := by decide +kernel
theorem twX10_63_67 : ∀ w ∈ Cond.classLink RX10 63 "java/lang/IllegalStateException" :: Cond.initialized "java/lang/IllegalStateException" :: vx_atS RX10 67 "java/lang/IllegalStateException" ["java/lang/RuntimeException", "java/lang/Exception"], w ∈ XW := xw_all _ (by decide +kernel)
theorem tfit_IllegalArgumentException : Bundle.fit "java/lang/IllegalArgumentException" = true := by decide +kernel
theorem twX10_52_56 : ∀ w ∈ Cond.classLink RX10 52 "java/lang/IllegalArgumentException" :: Cond.initialized "java/lang/IllegalArgumentException" :: vx_atS RX10 56 "java/lang/IllegalArgumentException" ["java/lang/RuntimeException", "java/lang/Exception"], w ∈ XW := xw_all _ (by decide +kernel)
theorem lkX10_313 : Cond.methodLink RX10 313 yX7_find ∈ XW := xw 963 (by decide +kernel) rfl
theorem tfit_IndexOutOfBoundsException : Bundle.fit "java/lang/IndexOutOfBoundsException" = true := by decide +kernel
theorem twX10_185_189 : ∀ w ∈ Cond.classLink RX10 185 "java/lang/IndexOutOfBoundsException" :: Cond.initialized "java/lang/IndexOutOfBoundsException" :: vx_atS RX10 189 "java/lang/IndexOutOfBoundsException" ["java/lang/RuntimeException", "java/lang/Exception"], w ∈ XW := xw_all _ (by decide +kernel)
theorem lkX10_299 : Cond.methodLink RX10 299 yX9_countWaiting ∈ XW := xw 860 (by decide +kernel) rfl
/-! BrailleDesk$Reader.typeCharacter -/
theorem tX5_typeCharacter {G : gG} (a0 : Nat) (a1 : Int32) (h : hp) (Q : hQ) (hF : okB (fX5_typeCharacter a0 a1 h) (pH gU Q)) : gS G mX5_typeCharacter 6 0 0 [sr (some a0), si a1] h Q := by
  delta fX5_typeCharacter at hF
  refine gS_at [some (sr (some a0)), some (si a1)] pl_X5 rfl (Nat.le_of_ble_eq_true rfl) rfl ?_
  refine v_iload_n (pc := 0) (i := 1) dX5_typeCharacter_0 rfl rfl ?_
  refine v_iconst (pc := 1) (v := (-1 : Int32)) dX5_typeCharacter_1 rfl ?_
  refine v_icmp_ne (pc := 2) 6 dX5_typeCharacter_2 rfl (fun hc => ?_) (fun hc => ?_)
  · replace hF := (okB_if hF).2 hc
    refine v_aload_n (pc := 6) (i := 0) dX5_typeCharacter_6 rfl rfl ?_
    refine s_getR (pc := 7) dX5_typeCharacter_7 flX5_48 rfl hF (fun x1 hF => ?_)
    refine s_getR (pc := 10) dX5_typeCharacter_10 flX5_242 rfl hF (fun x2 hF => ?_)
    refine cp_V (pc := 13) gI (as := []) (st := []) (ci := 0) (N := mX1_size) (k := 0) (n := 0) (k1 := 0) (n1 := 0) dX5_typeCharacter_13 lkX5_245 caX1_size cvX1_size rfl (by decide) rfl (fun b Q1 hq => tX1_size b h Q1 hq) ⟨by decide, by decide⟩ (Nat.le_of_ble_eq_true rfl) rfl hF (fun x3 hF => ?_)
    show gV G mX5_typeCharacter 6 Q 16 [some (sr (some a0)), some (si a1)] [si x3] (0) (0) h
    refine v_bipush (pc := 16) (v := (12 : Int32)) dX5_typeCharacter_16 rfl ?_
    refine v_icmp_lt (pc := 18) 28 dX5_typeCharacter_18 rfl (fun hc => ?_) (fun hc => ?_)
    · replace hF := (okB_if hF).1 hc
      refine v_aload_n (pc := 28) (i := 0) dX5_typeCharacter_28 rfl rfl ?_
      refine s_getR (pc := 29) dX5_typeCharacter_29 flX5_48 rfl hF (fun x4 hF => ?_)
      refine s_getR (pc := 32) dX5_typeCharacter_32 flX5_242 rfl hF (fun x5 hF => ?_)
      refine v_iload_n (pc := 35) (i := 1) dX5_typeCharacter_35 rfl rfl ?_
      refine ch_V (pc := 36) gU (as := [si a1]) (st := []) (ci := 0) (N := mX1_put) (k := 0) (n := 0) (k1 := 0) (n1 := 0) dX5_typeCharacter_36 lkX5_248 caX1_put cvX1_put rfl (by decide) rfl (fun b Q1 hq => tX1_put b a1 h Q1 hq) ⟨by decide, by decide⟩ (Nat.le_of_ble_eq_true rfl) rfl hF (fun x6 h7 hF => ?_)
      show gV G mX5_typeCharacter 6 Q 39 [some (sr (some a0)), some (si a1)] [] (0) (0) h7
      refine v_aload_n (pc := 39) (i := 0) dX5_typeCharacter_39 rfl rfl ?_
      refine s_getR (pc := 40) dX5_typeCharacter_40 flX5_29 rfl hF (fun x8 hF => ?_)
      refine v_iload_n (pc := 43) (i := 1) dX5_typeCharacter_43 rfl rfl ?_
      refine ch_V (pc := 44) gU (as := [si a1]) (st := []) (ci := 7) (N := mX8_typed) (k := 0) (n := 0) (k1 := 0) (n1 := 0) dX5_typeCharacter_44 lkX5_251 caX8_typed cvX8_typed rfl (by decide) rfl (fun b Q1 hq => tX8_typed b a1 h7 Q1 hq) ⟨by decide, by decide⟩ (Nat.le_of_ble_eq_true rfl) rfl hF (fun x9 h10 hF => ?_)
      show gV G mX5_typeCharacter 6 Q 47 [some (sr (some a0)), some (si a1)] [] (0) (0) h10
      refine v_aload_n (pc := 47) (i := 0) dX5_typeCharacter_47 rfl rfl ?_
      refine v_iload_n (pc := 48) (i := 1) dX5_typeCharacter_48 rfl rfl ?_
      refine ch_V (pc := 49) gU (as := [si a1]) (st := []) (ci := 4) (N := mX5_sayCharacter) (k := 0) (n := 0) (k1 := 0) (n1 := 0) dX5_typeCharacter_49 lkX5_254 caX5_sayCharacter cvX5_sayCharacter rfl (by decide) rfl (fun b Q1 hq => tX5_sayCharacter b a1 h10 Q1 hq) ⟨by decide, by decide⟩ (Nat.le_of_ble_eq_true rfl) rfl hF (fun x11 h12 hF => ?_)
      show gV G mX5_typeCharacter 6 Q 52 [some (sr (some a0)), some (si a1)] [] (0) (0) h12
      exact v_ret (pc := 52) dX5_typeCharacter_52 rfl (okr hF fun q => q)
    replace hF := (okB_if hF).2 hc
    refine v_aload_n (pc := 21) (i := 0) dX5_typeCharacter_21 rfl rfl ?_
    refine v_ldcS (pc := 22) 37 dX5_typeCharacter_22 rfl ?_
    refine ch_V (pc := 24) gU (as := [sr (some (ga G 37))]) (st := []) (ci := 4) (N := mX5_say) (k := 0) (n := 0) (k1 := 0) (n1 := 0) dX5_typeCharacter_24 lkX5_161 caX5_say cvX5_say rfl (by decide) rfl (fun b Q1 hq => tX5_say b 37 h Q1 hq) ⟨by decide, by decide⟩ (Nat.le_of_ble_eq_true rfl) rfl hF (fun x13 h14 hF => ?_)
    show gV G mX5_typeCharacter 6 Q 27 [some (sr (some a0)), some (si a1)] [] (0) (0) h14
    exact v_ret (pc := 27) dX5_typeCharacter_27 rfl (okr hF fun q => q)
  replace hF := (okB_if hF).1 hc
  exact v_ret (pc := 5) dX5_typeCharacter_5 rfl (okr hF fun q => q)
/-! BrailleDesk$Reader.type -/
theorem tX5_type {G : gG} (a0 : Nat) (a1 : Int32) (h : hp) (Q : hQ) (hF : okB (fX5_type a0 a1 h) (pH gU Q)) : gS G mX5_type 7 0 0 [sr (some a0), si a1] h Q := by
  delta fX5_type at hF
  refine gS_at [some (sr (some a0)), some (si a1)] pl_X5 rfl (Nat.le_of_ble_eq_true rfl) rfl ?_
  refine v_aload_n (pc := 0) (i := 0) dX5_type_0 rfl rfl ?_
  refine s_getR (pc := 1) dX5_type_1 flX5_29 rfl hF (fun x1 hF => ?_)
  refine v_iload_n (pc := 4) (i := 1) dX5_type_4 rfl rfl ?_
  refine ch_V (pc := 5) gI (as := [si a1]) (st := []) (ci := 7) (N := mX8_takesSign) (k := 0) (n := 0) (k1 := 0) (n1 := 0) dX5_type_5 lkX5_228 caX8_takesSign cvX8_takesSign rfl (by decide) rfl (fun b Q1 hq => tX8_takesSign b a1 h Q1 hq) ⟨by decide, by decide⟩ (Nat.le_of_ble_eq_true rfl) rfl hF (fun x2 h3 hF => ?_)
  show gV G mX5_type 7 Q 8 [some (sr (some a0)), some (si a1)] [si x2] (0) (0) h3
  refine v_if_eq (pc := 8) 12 dX5_type_8 rfl (fun hc => ?_) (fun hc => ?_)
  · replace hF := (okB_if hF).1 hc
    refine v_iload_n (pc := 12) (i := 1) dX5_type_12 rfl rfl ?_
    refine v_bipush (pc := 13) (v := (64 : Int32)) dX5_type_13 rfl ?_
    refine v_icmp_ne (pc := 15) 25 dX5_type_15 rfl (fun hc => ?_) (fun hc => ?_)
    · replace hF := (okB_if hF).2 hc
      refine v_iload_n (pc := 25) (i := 1) dX5_type_25 rfl rfl ?_
      refine v_sipush (pc := 26) (v := (128 : Int32)) dX5_type_26 rfl ?_
      refine v_icmp_ne (pc := 29) 57 dX5_type_29 rfl (fun hc => ?_) (fun hc => ?_)
      · replace hF := (okB_if hF).2 hc
        refine v_aload_n (pc := 57) (i := 0) dX5_type_57 rfl rfl ?_
        refine v_aload_n (pc := 58) (i := 0) dX5_type_58 rfl rfl ?_
        refine s_getR (pc := 59) dX5_type_59 flX5_29 rfl hF (fun x4 hF => ?_)
        refine v_iload_n (pc := 62) (i := 1) dX5_type_62 rfl rfl ?_
        refine cp_V (pc := 63) gI (as := [si a1]) (st := [sr (some a0)]) (ci := 7) (N := mX8_characterOf) (k := 0) (n := 0) (k1 := 0) (n1 := 0) dX5_type_63 lkX5_235 caX8_characterOf cvX8_characterOf rfl (by decide) rfl (fun b Q1 hq => tX8_characterOf b a1 h3 Q1 hq) ⟨by decide, by decide⟩ (Nat.le_of_ble_eq_true rfl) rfl hF (fun x5 hF => ?_)
        show gV G mX5_type 7 Q 66 [some (sr (some a0)), some (si a1)] [si x5, sr (some a0)] (0) (0) h3
        refine ch_V (pc := 66) gU (as := [si x5]) (st := []) (ci := 4) (N := mX5_typeCharacter) (k := 0) (n := 0) (k1 := 0) (n1 := 0) dX5_type_66 lkX5_239 caX5_typeCharacter cvX5_typeCharacter rfl (by decide) rfl (fun b Q1 hq => tX5_typeCharacter b x5 h3 Q1 hq) ⟨by decide, by decide⟩ (Nat.le_of_ble_eq_true rfl) rfl hF (fun x6 h7 hF => ?_)
        show gV G mX5_type 7 Q 69 [some (sr (some a0)), some (si a1)] [] (0) (0) h7
        exact v_ret (pc := 69) dX5_type_69 rfl (okr hF fun q => q)
      replace hF := (okB_if hF).1 hc
      refine v_aload_n (pc := 32) (i := 0) dX5_type_32 rfl rfl ?_
      refine s_getR (pc := 33) dX5_type_33 flX5_29 rfl hF (fun x8 hF => ?_)
      refine ch_V (pc := 36) gU (as := []) (st := []) (ci := 7) (N := mX8_end) (k := 0) (n := 0) (k1 := 0) (n1 := 0) dX5_type_36 lkX5_79 caX8_end cvX8_end rfl (by decide) rfl (fun b Q1 hq => tX8_end b h3 Q1 hq) ⟨by decide, by decide⟩ (Nat.le_of_ble_eq_true rfl) rfl hF (fun x9 h10 hF => ?_)
      show gV G mX5_type 7 Q 39 [some (sr (some a0)), some (si a1)] [] (0) (0) h10
      refine v_aload_n (pc := 39) (i := 0) dX5_type_39 rfl rfl ?_
      refine s_getR (pc := 40) dX5_type_40 flX5_15 rfl hF (fun x11 hF => ?_)
      refine v_aload_n (pc := 43) (i := 0) dX5_type_43 rfl rfl ?_
      refine v_aload_n (pc := 44) (i := 0) dX5_type_44 rfl rfl ?_
      refine s_getR (pc := 45) dX5_type_45 flX5_48 rfl hF (fun x12 hF => ?_)
      refine ch_V (pc := 48) gR (as := [sr x12]) (st := [sr x11]) (ci := 4) (N := mX5_wordsOf) (k := 0) (n := 0) (k1 := 0) (n1 := 0) dX5_type_48 lkX5_154 caX5_wordsOf cvX5_wordsOf rfl (by decide) rfl (fun b Q1 hq => tX5_wordsOf b x12 h10 Q1 hq) ⟨by decide, by decide⟩ (Nat.le_of_ble_eq_true rfl) rfl hF (fun x13 h14 hF => ?_)
      show gV G mX5_type 7 Q 51 [some (sr (some a0)), some (si a1)] [sr x13, sr x11] (0) (0) h14
      refine ch_V (pc := 51) gU (as := [sr x13]) (st := []) (ci := 8) (N := mX9_comeAnswer) (k := 0) (n := 0) (k1 := 0) (n1 := 0) dX5_type_51 lkX5_158 caX9_comeAnswer cvX9_comeAnswer rfl (by decide) rfl (fun b Q1 hq => tX9_comeAnswer b x13 h14 Q1 hq) ⟨by decide, by decide⟩ (Nat.le_of_ble_eq_true rfl) rfl hF (fun x15 h16 hF => ?_)
      show gV G mX5_type 7 Q 54 [some (sr (some a0)), some (si a1)] [] (0) (0) h16
      refine v_goto (pc := 54) 69 dX5_type_54 rfl ?_
      exact v_ret (pc := 69) dX5_type_69 rfl (okr hF fun q => q)
    replace hF := (okB_if hF).1 hc
    refine v_aload_n (pc := 18) (i := 0) dX5_type_18 rfl rfl ?_
    refine ch_V (pc := 19) gU (as := []) (st := []) (ci := 4) (N := mX5_takeBack) (k := 0) (n := 0) (k1 := 0) (n1 := 0) dX5_type_19 lkX5_232 caX5_takeBack cvX5_takeBack rfl (by decide) rfl (fun b Q1 hq => tX5_takeBack b h3 Q1 hq) ⟨by decide, by decide⟩ (Nat.le_of_ble_eq_true rfl) rfl hF (fun x17 h18 hF => ?_)
    show gV G mX5_type 7 Q 22 [some (sr (some a0)), some (si a1)] [] (0) (0) h18
    refine v_goto (pc := 22) 69 dX5_type_22 rfl ?_
    exact v_ret (pc := 69) dX5_type_69 rfl (okr hF fun q => q)
  replace hF := (okB_if hF).2 hc
  exact v_ret (pc := 11) dX5_type_11 rfl (okr hF fun q => q)
/-! BrailleDesk$Reader.goToKind -/
theorem lX5_goToKind_2 {G : gG} {Q : hQ} {P : ((Unit × hp) ⊕ Unit) → Prop} {k n : Nat} (c0 : Nat) (c1 : Int32) (h : hp) (hJ : ∀ q : Unit, P (.inr q) → gV G mX5_goToKind 7 Q 44 [none, none, none] [] (k) (n) h) (hR : ∀ r : (Unit × hp), P (.inl (r)) → (pH gU Q) r) : ∀ (fu : Nat) (a : Int32), okB (itr (fX5_goToKind_B2 c0 c1 h) fu a) P → gV G mX5_goToKind 7 Q 2 [some (sr (some c0)), some (si c1), some (si a)] [] (k) (n) h :=
  lpg (X := fun (a : Int32) => gV G mX5_goToKind 7 Q 2 [some (sr (some c0)), some (si c1), some (si a)] [] (k) (n) h) (fun a P2 hL hE hF => by
    delta fX5_goToKind_B2 at hF
    refine v_iload_n (pc := 2) (i := 2) dX5_goToKind_2 rfl rfl ?_
    refine v_bipush (pc := 3) (v := (7 : Int32)) dX5_goToKind_3 rfl ?_
    refine v_icmp_gt (pc := 5) 44 dX5_goToKind_5 rfl (fun hc => ?_) (fun hc => ?_)
    · replace hF := (okB_if hF).1 hc
      exact v_lle [none, none, none] trivial (hJ () (hE _ (okB_some hF)))
    replace hF := (okB_if hF).2 hc
    refine v_iload_n (pc := 8) (i := 1) dX5_goToKind_8 rfl rfl ?_
    refine v_iload_n (pc := 9) (i := 2) dX5_goToKind_9 rfl rfl ?_
    refine cp_S (pc := 10) (gT G) (as := [si a]) (st := [si c1]) (N := mX2_kindWord) (k := k) (n := n) (k1 := 0) (n1 := 0) dX5_goToKind_10 lkX5_199 caX2_kindWord csX2_kindWord rfl (fun Q1 hq => tX2_kindWord a h Q1 hq) ⟨by decide, by decide⟩ (Nat.le_of_ble_eq_true rfl) rfl hF (fun x1 hF => ?_)
    show gV G mX5_goToKind 7 Q 13 [some (sr (some c0)), some (si c1), some (si a)] [sr (some (ga G x1)), si c1] (k) (n) h
    refine cp_S (pc := 13) gI (as := [sr (some (ga G x1))]) (st := [si c1]) (N := mX0_firstPoints) (k := k) (n := n) (k1 := 0) (n1 := 0) dX5_goToKind_13 lkX5_203 caX0_firstPoints csX0_firstPoints rfl (fun Q1 hq => tX0_firstPoints x1 h Q1 hq) ⟨by decide, by decide⟩ (Nat.le_of_ble_eq_true rfl) rfl hF (fun x2 hF => ?_)
    show gV G mX5_goToKind 7 Q 16 [some (sr (some c0)), some (si c1), some (si a)] [si x2, si c1] (k) (n) h
    refine v_icmp_ne (pc := 16) 38 dX5_goToKind_16 rfl (fun hc => ?_) (fun hc => ?_)
    · replace hF := (okB_if hF).2 hc
      refine v_iinc (pc := 38) (i := 2) (a + (1 : Int32)) [some (sr (some c0)), some (si c1), some (si (a + (1 : Int32)))] dX5_goToKind_38 rfl rfl rfl rfl ?_
      refine v_goto (pc := 41) 2 dX5_goToKind_41 rfl ?_
      exact v_lle [some (sr (some c0)), some (si c1), some (si (a + (1 : Int32)))] ⟨rfl, rfl, rfl, trivial⟩ (hL (a + (1 : Int32)) (okB_some hF))
    replace hF := (okB_if hF).1 hc
    refine v_aload_n (pc := 19) (i := 0) dX5_goToKind_19 rfl rfl ?_
    refine v_aload_n (pc := 20) (i := 0) dX5_goToKind_20 rfl rfl ?_
    refine s_getR (pc := 21) dX5_goToKind_21 flX5_9 rfl hF (fun x3 hF => ?_)
    refine v_aload_n (pc := 24) (i := 0) dX5_goToKind_24 rfl rfl ?_
    refine s_getR (pc := 25) dX5_goToKind_25 flX5_48 rfl hF (fun x4 hF => ?_)
    refine v_iload_n (pc := 28) (i := 2) dX5_goToKind_28 rfl rfl ?_
    refine cp_V (pc := 29) gR (as := [sr x4, si a]) (st := [sr (some c0)]) (ci := 6) (N := mX7_nextOfKind) (k := k) (n := n) (k1 := 0) (n1 := 0) dX5_goToKind_29 lkX5_209 caX7_nextOfKind cvX7_nextOfKind rfl (by decide) rfl (fun b Q1 hq => tX7_nextOfKind b x4 a h Q1 hq) ⟨by decide, by decide⟩ (Nat.le_of_ble_eq_true rfl) rfl hF (fun x5 hF => ?_)
    show gV G mX5_goToKind 7 Q 32 [some (sr (some c0)), some (si c1), some (si a)] [sr x5, sr (some c0)] (k) (n) h
    refine v_ldcS (pc := 32) 31 dX5_goToKind_32 rfl ?_
    refine ch_V (pc := 34) gU (as := [sr x5, sr (some (ga G 31))]) (st := []) (ci := 4) (N := mX5_goTo) (k := k) (n := n) (k1 := 0) (n1 := 0) dX5_goToKind_34 lkX5_115 caX5_goTo cvX5_goTo rfl (by decide) rfl (fun b Q1 hq => tX5_goTo b x5 31 h Q1 hq) ⟨by decide, by decide⟩ (Nat.le_of_ble_eq_true rfl) rfl hF (fun x6 h7 hF => ?_)
    show gV G mX5_goToKind 7 Q 37 [some (sr (some c0)), some (si c1), some (si a)] [] (k) (n) h7
    exact v_ret (pc := 37) dX5_goToKind_37 rfl (hR _ (hE _ (okB_some hF))))
theorem tX5_goToKind {G : gG} (a0 : Nat) (a1 : Int32) (h : hp) (Q : hQ) (hF : okB (fX5_goToKind a0 a1 h) (pH gU Q)) : gS G mX5_goToKind 7 0 0 [sr (some a0), si a1] h Q := by
  delta fX5_goToKind at hF
  refine gS_at [some (sr (some a0)), some (si a1), none] pl_X5 rfl (Nat.le_of_ble_eq_true rfl) rfl ?_
  refine v_iconst (pc := 0) (v := (0 : Int32)) dX5_goToKind_0 rfl ?_
  refine v_istore_n (pc := 1) (i := 2) [some (sr (some a0)), some (si a1), some (si (0 : Int32))] dX5_goToKind_1 rfl (by decide) rfl rfl ?_
  refine mgR (X := fun q1 => gV G mX5_goToKind 7 Q 44 [none, none, none] [] (0) (0) h) hF (fun _ hj2 hr2 hF => v_lle [some (sr (some a0)), some (si a1), some (si (0 : Int32))] ⟨rfl, rfl, rfl, trivial⟩ (lX5_goToKind_2 a0 a1 h hj2 (fun _ hp => (hr2 _ hp)) FU (0 : Int32) hF)) (fun q1 hF => ?_)
  exact v_ret (pc := 44) dX5_goToKind_44 rfl (okr hF fun q => q)
/-! BrailleDesk$Reader.obey -/
theorem tX5_obey {G : gG} (a0 : Nat) (a1 : Int32) (h : hp) (Q : hQ) (hF : okB (fX5_obey a0 a1 h) (pH gU Q)) : gS G mX5_obey 8 0 0 [sr (some a0), si a1] h Q := by
  delta fX5_obey at hF
  refine gS_at [some (sr (some a0)), some (si a1)] pl_X5 rfl (Nat.le_of_ble_eq_true rfl) rfl ?_
  refine v_iload_n (pc := 0) (i := 1) dX5_obey_0 rfl rfl ?_
  refine v_sipush (pc := 1) (v := (256 : Int32)) dX5_obey_1 rfl ?_
  refine mg (X := fun q1 => gV G mX5_obey 8 Q 42 [some (sr (some a0)), none] [] (0) (0) q1) hF (fun _ hj2 hF => ?_) (fun q1 hF => ?_)
  · refine v_icmp_le (pc := 4) 19 dX5_obey_4 rfl (fun hc => ?_) (fun hc => ?_)
    · replace hF := (okB_if hF).1 hc
      refine v_aload_n (pc := 19) (i := 0) dX5_obey_19 rfl rfl ?_
      refine s_getR (pc := 20) dX5_obey_20 flX5_29 rfl hF (fun x3 hF => ?_)
      refine s_getI (pc := 23) dX5_obey_23 flX5_55 rfl hF (fun x4 hF => ?_)
      refine v_if_eq (pc := 26) 37 dX5_obey_26 rfl (fun hc => ?_) (fun hc => ?_)
      · replace hF := (okB_if hF).1 hc
        refine v_aload_n (pc := 37) (i := 0) dX5_obey_37 rfl rfl ?_
        refine v_iload_n (pc := 38) (i := 1) dX5_obey_38 rfl rfl ?_
        refine ch_V (pc := 39) gU (as := [si a1]) (st := []) (ci := 4) (N := mX5_goToKind) (k := 0) (n := 0) (k1 := 0) (n1 := 0) dX5_obey_39 lkX5_103 caX5_goToKind cvX5_goToKind rfl (by decide) rfl (fun b Q1 hq => tX5_goToKind b a1 h Q1 hq) ⟨by decide, by decide⟩ (Nat.le_of_ble_eq_true rfl) rfl hF (fun x5 h6 hF => ?_)
        show gV G mX5_obey 8 Q 42 [some (sr (some a0)), some (si a1)] [] (0) (0) h6
        exact v_lle [some (sr (some a0)), none] ⟨rfl, trivial⟩ (hj2 h6 (okB_some hF))
      replace hF := (okB_if hF).2 hc
      refine v_aload_n (pc := 29) (i := 0) dX5_obey_29 rfl rfl ?_
      refine v_iload_n (pc := 30) (i := 1) dX5_obey_30 rfl rfl ?_
      refine ch_V (pc := 31) gU (as := [si a1]) (st := []) (ci := 4) (N := mX5_type) (k := 0) (n := 0) (k1 := 0) (n1 := 0) dX5_obey_31 lkX5_100 caX5_type cvX5_type rfl (by decide) rfl (fun b Q1 hq => tX5_type b a1 h Q1 hq) ⟨by decide, by decide⟩ (Nat.le_of_ble_eq_true rfl) rfl hF (fun x7 h8 hF => ?_)
      show gV G mX5_obey 8 Q 34 [some (sr (some a0)), some (si a1)] [] (0) (0) h8
      refine v_goto (pc := 34) 42 dX5_obey_34 rfl ?_
      exact v_lle [some (sr (some a0)), none] ⟨rfl, trivial⟩ (hj2 h8 (okB_some hF))
    replace hF := (okB_if hF).2 hc
    refine v_aload_n (pc := 7) (i := 0) dX5_obey_7 rfl rfl ?_
    refine v_iload_n (pc := 8) (i := 1) dX5_obey_8 rfl rfl ?_
    refine v_sipush (pc := 9) (v := (256 : Int32)) dX5_obey_9 rfl ?_
    refine v_isub (pc := 12) dX5_obey_12 ?_
    refine ch_V (pc := 13) gU (as := [si (a1 - (256 : Int32))]) (st := []) (ci := 4) (N := mX5_command) (k := 0) (n := 0) (k1 := 0) (n1 := 0) dX5_obey_13 lkX5_97 caX5_command cvX5_command rfl (by decide) rfl (fun b Q1 hq => tX5_command b (a1 - (256 : Int32)) h Q1 hq) ⟨by decide, by decide⟩ (Nat.le_of_ble_eq_true rfl) rfl hF (fun x9 h10 hF => ?_)
    show gV G mX5_obey 8 Q 16 [some (sr (some a0)), some (si a1)] [] (0) (0) h10
    refine v_goto (pc := 16) 42 dX5_obey_16 rfl ?_
    exact v_lle [some (sr (some a0)), none] ⟨rfl, trivial⟩ (hj2 h10 (okB_some hF))
  refine v_aload_n (pc := 42) (i := 0) dX5_obey_42 rfl rfl ?_
  refine s_getR (pc := 43) dX5_obey_43 flX5_22 rfl hF (fun x11 hF => ?_)
  refine v_aload_n (pc := 46) (i := 0) dX5_obey_46 rfl rfl ?_
  refine s_getR (pc := 47) dX5_obey_47 flX5_48 rfl hF (fun x12 hF => ?_)
  refine v_aload_n (pc := 50) (i := 0) dX5_obey_50 rfl rfl ?_
  refine s_getR (pc := 51) dX5_obey_51 flX5_29 rfl hF (fun x13 hF => ?_)
  refine s_getI (pc := 54) dX5_obey_54 flX5_55 rfl hF (fun x14 hF => ?_)
  refine ch_V (pc := 57) gU (as := [sr x12, si x14]) (st := []) (ci := 2) (N := mX3_keep) (k := 0) (n := 0) (k1 := 0) (n1 := 0) dX5_obey_57 lkX5_51 caX3_keep cvX3_keep rfl (by decide) rfl (fun b Q1 hq => tX3_keep b x12 x14 q1 Q1 hq) ⟨by decide, by decide⟩ (Nat.le_of_ble_eq_true rfl) rfl hF (fun x15 h16 hF => ?_)
  show gV G mX5_obey 8 Q 60 [some (sr (some a0)), none] [] (0) (0) h16
  exact v_ret (pc := 60) dX5_obey_60 rfl (okr hF fun q => q)
/-! BrailleDesk.<init> -/
theorem tX10_init {G : gG} (a0 : Nat) (h : hp) (Q : hQ) (hF : okB (fX10_init a0 h) (pH gU Q)) : gS G mX10_init 8 123 5952 [sr (some a0)] h Q := by
  delta fX10_init at hF
  refine gS_at [some (sr (some a0))] pl_X10 rfl (Nat.le_of_ble_eq_true rfl) rfl ?_
  refine v_aload_n (pc := 0) (i := 0) dX10_init_0 rfl rfl ?_
  refine v_objI (pc := 1) dX10_init_1 lkX10_1 oi_c oi_d (Nat.le_of_ble_eq_true rfl) (by decide) ?_
  refine v_aload_n (pc := 4) (i := 0) dX10_init_4 rfl rfl ?_
  refine v_new (pc := 5) (ci := 6) (k := 122) (n := 5946) dX10_init_5 (by decide) ccX10_7 ins_6 ini_6 ?_
  refine v_dup (pc := 8) dX10_init_8 rfl ?_
  refine ch_I (pc := 9) (as := []) (st := [sr (some (hN h)), sr (some a0)]) (N := mX7_init) (k := 112) (n := 5535) (k1 := 10) (n1 := 411) dX10_init_9 lkX10_9 caX7_init ciX7_init rfl rfl rfl (fun Q1 hq => tX7_init (hN h) (wN h (7, 0)) Q1 hq) ⟨by decide, by decide⟩ (Nat.le_of_ble_eq_true rfl) rfl hF (fun x1 h2 hF => ?_)
  refine s_putR (pc := 12) dX10_init_12 flX10_10 (Or.inr ⟨rfl, rfl, rfl⟩) rfl hF (fun h3 hF => ?_)
  refine v_aload_n (pc := 15) (i := 0) dX10_init_15 rfl rfl ?_
  refine v_new (pc := 16) (ci := 8) (k := 111) (n := 5524) dX10_init_16 (by decide) ccX10_16 ins_8 ini_8 ?_
  refine v_dup (pc := 19) dX10_init_19 rfl ?_
  refine ch_I (pc := 20) (as := []) (st := [sr (some (hN h3)), sr (some a0)]) (N := mX9_init) (k := 14) (n := 528) (k1 := 97) (n1 := 4996) dX10_init_20 lkX10_18 caX9_init ciX9_init rfl rfl rfl (fun Q1 hq => tX9_init (hN h3) (wN h3 (9, 0)) Q1 hq) ⟨by decide, by decide⟩ (Nat.le_of_ble_eq_true rfl) rfl hF (fun x4 h5 hF => ?_)
  refine s_putR (pc := 23) dX10_init_23 flX10_19 (Or.inr ⟨rfl, rfl, rfl⟩) rfl hF (fun h6 hF => ?_)
  refine v_aload_n (pc := 26) (i := 0) dX10_init_26 rfl rfl ?_
  refine v_new (pc := 27) (ci := 5) (k := 13) (n := 523) dX10_init_27 (by decide) ccX10_23 ins_5 ini_5 ?_
  refine v_dup (pc := 30) dX10_init_30 rfl ?_
  refine v_aload_n (pc := 31) (i := 0) dX10_init_31 rfl rfl ?_
  refine s_getR (pc := 32) dX10_init_32 flX10_10 rfl hF (fun x7 hF => ?_)
  refine v_aload_n (pc := 35) (i := 0) dX10_init_35 rfl rfl ?_
  refine s_getR (pc := 36) dX10_init_36 flX10_19 rfl hF (fun x8 hF => ?_)
  refine ch_I (pc := 39) (as := [sr x7, sr x8]) (st := [sr (some (hN h6)), sr (some a0)]) (N := mX6_init) (k := 11) (n := 421) (k1 := 2) (n1 := 102) dX10_init_39 lkX10_25 caX6_init ciX6_init rfl rfl rfl (fun Q1 hq => tX6_init (hN h6) x7 x8 (wN h6 (6, 0)) Q1 hq) ⟨by decide, by decide⟩ (Nat.le_of_ble_eq_true rfl) rfl hF (fun x9 h10 hF => ?_)
  refine s_putR (pc := 42) dX10_init_42 flX10_28 (Or.inr ⟨rfl, rfl, rfl⟩) rfl hF (fun h11 hF => ?_)
  refine v_aload_n (pc := 45) (i := 0) dX10_init_45 rfl rfl ?_
  refine v_new (pc := 46) (ci := 4) (k := 10) (n := 414) dX10_init_46 (by decide) ccX10_32 ins_4 ini_4 ?_
  refine v_dup (pc := 49) dX10_init_49 rfl ?_
  refine v_aload_n (pc := 50) (i := 0) dX10_init_50 rfl rfl ?_
  refine s_getR (pc := 51) dX10_init_51 flX10_10 rfl hF (fun x12 hF => ?_)
  refine v_aload_n (pc := 54) (i := 0) dX10_init_54 rfl rfl ?_
  refine s_getR (pc := 55) dX10_init_55 flX10_19 rfl hF (fun x13 hF => ?_)
  refine ch_I (pc := 58) (as := [sr x12, sr x13]) (st := [sr (some (hN h11)), sr (some a0)]) (N := mX5_init) (k := 2) (n := 102) (k1 := 8) (n1 := 312) dX10_init_58 lkX10_34 caX5_init ciX5_init rfl rfl rfl (fun Q1 hq => tX5_init (hN h11) x12 x13 (wN h11 (5, 0)) Q1 hq) ⟨by decide, by decide⟩ (Nat.le_of_ble_eq_true rfl) rfl hF (fun x14 h15 hF => ?_)
  refine s_putR (pc := 61) dX10_init_61 flX10_35 (Or.inr ⟨rfl, rfl, rfl⟩) rfl hF (fun h16 hF => ?_)
  refine v_aload_n (pc := 64) (i := 0) dX10_init_64 rfl rfl ?_
  refine v_new (pc := 65) (ci := 0) (k := 1) (n := 100) dX10_init_65 (by decide) ccX10_39 ins_0 ini_0 ?_
  refine v_dup (pc := 68) dX10_init_68 rfl ?_
  refine v_bipush (pc := 69) (v := (12 : Int32)) dX10_init_69 rfl ?_
  refine ch_I (pc := 71) (as := [si (12 : Int32)]) (st := [sr (some (hN h16)), sr (some a0)]) (N := mX1_init) (k := 0) (n := 0) (k1 := 1) (n1 := 100) dX10_init_71 lkX10_41 caX1_init ciX1_init rfl rfl rfl (fun Q1 hq => tX1_init (hN h16) (12 : Int32) (wN h16 (1, 0)) Q1 hq) ⟨by decide, by decide⟩ (Nat.le_of_ble_eq_true rfl) rfl hF (fun x17 h18 hF => ?_)
  refine s_putR (pc := 74) dX10_init_74 flX10_44 (Or.inr ⟨rfl, rfl, rfl⟩) rfl hF (fun h19 hF => ?_)
  exact v_ret (pc := 77) dX10_init_77 rfl (okr hF fun q => q)
/-! BrailleDesk.isCharacter -/
theorem tX10_isCharacter {G : gG} (a0 : Int32) (h : hp) (Q : hQ) (hF : okB (fX10_isCharacter a0) (pP gI Q h)) : gS G mX10_isCharacter 0 0 0 [si a0] h Q := by
  delta fX10_isCharacter at hF
  refine gS_at [some (si a0)] pl_X10 rfl (Nat.le_of_ble_eq_true rfl) rfl ?_
  refine v_iload_n (pc := 0) (i := 0) dX10_isCharacter_0 rfl rfl ?_
  refine v_bipush (pc := 1) (v := (32 : Int32)) dX10_isCharacter_1 rfl ?_
  refine v_icmp_lt (pc := 3) 12 dX10_isCharacter_3 rfl (fun hc => ?_) (fun hc => ?_)
  · replace hF := (okB_if hF).1 hc
    refine v_iload_n (pc := 12) (i := 0) dX10_isCharacter_12 rfl rfl ?_
    refine v_ldcw (pc := 13) (v := (119040 : Int32)) dX10_isCharacter_13 ctX10_334 ?_
    refine v_icmp_lt (pc := 16) 30 dX10_isCharacter_16 rfl (fun hc => ?_) (fun hc => ?_)
    · replace hF := (okB_if hF).1 hc
      refine v_iconst (pc := 30) (v := (0 : Int32)) dX10_isCharacter_30 rfl ?_
      exact v_iret (pc := 31) dX10_isCharacter_31 rfl rfl (okr hF fun q => q)
    replace hF := (okB_if hF).2 hc
    refine v_iload_n (pc := 19) (i := 0) dX10_isCharacter_19 rfl rfl ?_
    refine v_ldcw (pc := 20) (v := (119295 : Int32)) dX10_isCharacter_20 ctX10_335 ?_
    refine v_icmp_gt (pc := 23) 30 dX10_isCharacter_23 rfl (fun hc => ?_) (fun hc => ?_)
    · replace hF := (okB_if hF).1 hc
      refine v_iconst (pc := 30) (v := (0 : Int32)) dX10_isCharacter_30 rfl ?_
      exact v_iret (pc := 31) dX10_isCharacter_31 rfl rfl (okr hF fun q => q)
    replace hF := (okB_if hF).2 hc
    refine v_iconst (pc := 26) (v := (1 : Int32)) dX10_isCharacter_26 rfl ?_
    refine v_goto (pc := 27) 31 dX10_isCharacter_27 rfl ?_
    exact v_iret (pc := 31) dX10_isCharacter_31 rfl rfl (okr hF fun q => q)
  replace hF := (okB_if hF).2 hc
  refine v_iload_n (pc := 6) (i := 0) dX10_isCharacter_6 rfl rfl ?_
  refine v_bipush (pc := 7) (v := (126 : Int32)) dX10_isCharacter_7 rfl ?_
  refine v_icmp_le (pc := 9) 26 dX10_isCharacter_9 rfl (fun hc => ?_) (fun hc => ?_)
  · replace hF := (okB_if hF).1 hc
    refine v_iconst (pc := 26) (v := (1 : Int32)) dX10_isCharacter_26 rfl ?_
    refine v_goto (pc := 27) 31 dX10_isCharacter_27 rfl ?_
    exact v_iret (pc := 31) dX10_isCharacter_31 rfl rfl (okr hF fun q => q)
  replace hF := (okB_if hF).2 hc
  refine v_iload_n (pc := 12) (i := 0) dX10_isCharacter_12 rfl rfl ?_
  refine v_ldcw (pc := 13) (v := (119040 : Int32)) dX10_isCharacter_13 ctX10_334 ?_
  refine v_icmp_lt (pc := 16) 30 dX10_isCharacter_16 rfl (fun hc => ?_) (fun hc => ?_)
  · replace hF := (okB_if hF).1 hc
    refine v_iconst (pc := 30) (v := (0 : Int32)) dX10_isCharacter_30 rfl ?_
    exact v_iret (pc := 31) dX10_isCharacter_31 rfl rfl (okr hF fun q => q)
  replace hF := (okB_if hF).2 hc
  refine v_iload_n (pc := 19) (i := 0) dX10_isCharacter_19 rfl rfl ?_
  refine v_ldcw (pc := 20) (v := (119295 : Int32)) dX10_isCharacter_20 ctX10_335 ?_
  refine v_icmp_gt (pc := 23) 30 dX10_isCharacter_23 rfl (fun hc => ?_) (fun hc => ?_)
  · replace hF := (okB_if hF).1 hc
    refine v_iconst (pc := 30) (v := (0 : Int32)) dX10_isCharacter_30 rfl ?_
    exact v_iret (pc := 31) dX10_isCharacter_31 rfl rfl (okr hF fun q => q)
  replace hF := (okB_if hF).2 hc
  refine v_iconst (pc := 26) (v := (1 : Int32)) dX10_isCharacter_26 rfl ?_
  refine v_goto (pc := 27) 31 dX10_isCharacter_27 rfl ?_
  exact v_iret (pc := 31) dX10_isCharacter_31 rfl rfl (okr hF fun q => q)
/-! BrailleDesk.draft -/
theorem tX10_draft {G : gG} (a0 : Nat) (a1 : Int32) (h : hp) (Q : hQ) (hF : okB (fX10_draft a0 a1 h) (pX gI Q)) : gS G mX10_draft 6 1 6 [sr (some a0), si a1] h Q := by
  delta fX10_draft at hF
  refine gS_at [some (sr (some a0)), some (si a1)] pl_X10 rfl (Nat.le_of_ble_eq_true rfl) rfl ?_
  refine v_iload_n (pc := 0) (i := 1) dX10_draft_0 rfl rfl ?_
  refine cp_S (pc := 1) gI (as := [si a1]) (st := []) (N := mX10_isCharacter) (k := 1) (n := 6) (k1 := 0) (n1 := 0) dX10_draft_1 lkX10_48 caX10_isCharacter csX10_isCharacter rfl (fun Q1 hq => tX10_isCharacter a1 h Q1 hq) ⟨by decide, by decide⟩ (Nat.le_of_ble_eq_true rfl) rfl hF (fun x1 hF => ?_)
  show gV G mX10_draft 6 Q 4 [some (sr (some a0)), some (si a1)] [si x1] (1) (6) h
  refine v_if_ne (pc := 4) 17 dX10_draft_4 rfl (fun hc => ?_) (fun hc => ?_)
  · replace hF := (okB_if hF).2 hc
    refine v_aload_n (pc := 17) (i := 0) dX10_draft_17 rfl rfl ?_
    refine s_getR (pc := 18) dX10_draft_18 flX10_44 rfl hF (fun x2 hF => ?_)
    refine cp_V (pc := 21) gI (as := []) (st := []) (ci := 0) (N := mX1_size) (k := 1) (n := 6) (k1 := 0) (n1 := 0) dX10_draft_21 lkX10_59 caX1_size cvX1_size rfl (by decide) rfl (fun b Q1 hq => tX1_size b h Q1 hq) ⟨by decide, by decide⟩ (Nat.le_of_ble_eq_true rfl) rfl hF (fun x3 hF => ?_)
    show gV G mX10_draft 6 Q 24 [some (sr (some a0)), some (si a1)] [si x3] (1) (6) h
    refine v_bipush (pc := 24) (v := (12 : Int32)) dX10_draft_24 rfl ?_
    refine v_icmp_lt (pc := 26) 39 dX10_draft_26 rfl (fun hc => ?_) (fun hc => ?_)
    · replace hF := (okB_if hF).1 hc
      refine v_aload_n (pc := 39) (i := 0) dX10_draft_39 rfl rfl ?_
      refine s_getR (pc := 40) dX10_draft_40 flX10_44 rfl hF (fun x4 hF => ?_)
      refine v_iload_n (pc := 43) (i := 1) dX10_draft_43 rfl rfl ?_
      refine ch_V (pc := 44) gU (as := [si a1]) (st := []) (ci := 0) (N := mX1_put) (k := 1) (n := 6) (k1 := 0) (n1 := 0) dX10_draft_44 lkX10_68 caX1_put cvX1_put rfl (by decide) rfl (fun b Q1 hq => tX1_put b a1 h Q1 hq) ⟨by decide, by decide⟩ (Nat.le_of_ble_eq_true rfl) rfl hF (fun x5 h6 hF => ?_)
      show gV G mX10_draft 6 Q 47 [some (sr (some a0)), some (si a1)] [] (1) (6) h6
      refine v_aload_n (pc := 47) (i := 0) dX10_draft_47 rfl rfl ?_
      refine s_getR (pc := 48) dX10_draft_48 flX10_44 rfl hF (fun x7 hF => ?_)
      refine cp_V (pc := 51) gI (as := []) (st := []) (ci := 0) (N := mX1_size) (k := 1) (n := 6) (k1 := 0) (n1 := 0) dX10_draft_51 lkX10_59 caX1_size cvX1_size rfl (by decide) rfl (fun b Q1 hq => tX1_size b h6 Q1 hq) ⟨by decide, by decide⟩ (Nat.le_of_ble_eq_true rfl) rfl hF (fun x8 hF => ?_)
      show gV G mX10_draft 6 Q 54 [some (sr (some a0)), some (si a1)] [si x8] (1) (6) h6
      exact v_iret (pc := 54) dX10_draft_54 rfl rfl (okr hF fun q => q)
    replace hF := (okB_if hF).2 hc
    exact v_throw (pc := 29) (k := 0) (n := 0) 9 dX10_draft_29 dX10_draft_32 dX10_draft_33 dX10_draft_35 dX10_draft_38 rfl tfit_IllegalStateException tnames twX10_63_67 rfl (by decide) (Nat.le_of_ble_eq_true rfl) rfl (okr hF fun q => q)
  replace hF := (okB_if hF).1 hc
  exact v_throw (pc := 7) (k := 0) (n := 0) 8 dX10_draft_7 dX10_draft_10 dX10_draft_11 dX10_draft_13 dX10_draft_16 rfl tfit_IllegalArgumentException tnames twX10_52_56 rfl (by decide) (Nat.le_of_ble_eq_true rfl) rfl (okr hF fun q => q)
/-! BrailleDesk.existing -/
theorem tX10_existing {G : gG} (a0 : Nat) (a1 : Int32) (h : hp) (Q : hQ) (hF : okB (fX10_existing a0 a1 h) (pC gR Q h)) : gS G mX10_existing 6 1 6 [sr (some a0), si a1] h Q := by
  delta fX10_existing at hF
  refine gS_at [some (sr (some a0)), some (si a1), none] pl_X10 rfl (Nat.le_of_ble_eq_true rfl) rfl ?_
  refine v_aload_n (pc := 0) (i := 0) dX10_existing_0 rfl rfl ?_
  refine s_getR (pc := 1) dX10_existing_1 flX10_10 rfl hF (fun x1 hF => ?_)
  refine v_iload_n (pc := 4) (i := 1) dX10_existing_4 rfl rfl ?_
  refine cp_V (pc := 5) gR (as := [si a1]) (st := []) (ci := 6) (N := mX7_find) (k := 1) (n := 6) (k1 := 0) (n1 := 0) dX10_existing_5 lkX10_313 caX7_find cvX7_find rfl (by decide) rfl (fun b Q1 hq => tX7_find b a1 h Q1 hq) ⟨by decide, by decide⟩ (Nat.le_of_ble_eq_true rfl) rfl hF (fun x2 hF => ?_)
  show gV G mX10_existing 6 Q 8 [some (sr (some a0)), some (si a1), none] [sr x2] (1) (6) h
  refine v_astore_n (pc := 8) (i := 2) [some (sr (some a0)), some (si a1), some (sr x2)] dX10_existing_8 rfl (by decide) rfl rfl ?_
  refine v_aload_n (pc := 9) (i := 2) dX10_existing_9 rfl rfl ?_
  refine s_ifnonnull (pc := 10) 24 dX10_existing_10 rfl hF (fun hF => ?_) (fun hF => ?_)
  · refine v_aload_n (pc := 24) (i := 2) dX10_existing_24 rfl rfl ?_
    exact v_aret (pc := 25) dX10_existing_25 rfl (Or.inl ⟨_, rfl⟩) (okr hF fun q => q)
  exact v_throwW (pc := 13) (k := 0) (n := 0) 10 dX10_existing_13 dX10_existing_16 dX10_existing_17 dX10_existing_20 dX10_existing_23 rfl tfit_IndexOutOfBoundsException tnames twX10_185_189 rfl (by decide) (Nat.le_of_ble_eq_true rfl) rfl (okr hF fun q => q)
/-! BrailleDesk.refuseManyAlerts -/
theorem tX10_refuseManyAlerts {G : gG} (a0 : Nat) (h : hp) (Q : hQ) (hF : okB (fX10_refuseManyAlerts a0 h) (pC gU Q h)) : gS G mX10_refuseManyAlerts 6 1 6 [sr (some a0)] h Q := by
  delta fX10_refuseManyAlerts at hF
  refine gS_at [some (sr (some a0))] pl_X10 rfl (Nat.le_of_ble_eq_true rfl) rfl ?_
  refine v_aload_n (pc := 0) (i := 0) dX10_refuseManyAlerts_0 rfl rfl ?_
  refine s_getR (pc := 1) dX10_refuseManyAlerts_1 flX10_19 rfl hF (fun x1 hF => ?_)
  refine v_iconst (pc := 4) (v := (2 : Int32)) dX10_refuseManyAlerts_4 rfl ?_
  refine cp_V (pc := 5) gI (as := [si (2 : Int32)]) (st := []) (ci := 8) (N := mX9_countWaiting) (k := 1) (n := 6) (k1 := 0) (n1 := 0) dX10_refuseManyAlerts_5 lkX10_299 caX9_countWaiting cvX9_countWaiting rfl (by decide) rfl (fun b Q1 hq => tX9_countWaiting b (2 : Int32) h Q1 hq) ⟨by decide, by decide⟩ (Nat.le_of_ble_eq_true rfl) rfl hF (fun x2 hF => ?_)
  show gV G mX10_refuseManyAlerts 6 Q 8 [some (sr (some a0))] [si x2] (1) (6) h
  refine v_bipush (pc := 8) (v := (20 : Int32)) dX10_refuseManyAlerts_8 rfl ?_
  refine v_icmp_lt (pc := 10) 24 dX10_refuseManyAlerts_10 rfl (fun hc => ?_) (fun hc => ?_)
  · replace hF := (okB_if hF).1 hc
    exact v_ret (pc := 24) dX10_refuseManyAlerts_24 rfl (okr hF fun q => q)
  replace hF := (okB_if hF).2 hc
  exact v_throwW (pc := 13) (k := 0) (n := 0) 13 dX10_refuseManyAlerts_13 dX10_refuseManyAlerts_16 dX10_refuseManyAlerts_17 dX10_refuseManyAlerts_20 dX10_refuseManyAlerts_23 rfl tfit_IllegalStateException tnames twX10_63_67 rfl (by decide) (Nat.le_of_ble_eq_true rfl) rfl (okr hF fun q => q)
