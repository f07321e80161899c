/-! ===== methods: their functions and rows ===== -/
theorem dX1_init_0 : decode cX1_init 0 = .ok (.aload_n 0, 1) := by decide +kernel
theorem dX1_init_1 : decode cX1_init 1 = .ok (.invokespecial 3, 3) := by decide +kernel
theorem dX1_init_4 : decode cX1_init 4 = .ok (.aload_n 0, 1) := by decide +kernel
theorem dX1_init_5 : decode cX1_init 5 = .ok (.iload_n 1, 1) := by decide +kernel
theorem dX1_init_6 : decode cX1_init 6 = .ok (.ifCond .ge 7, 3) := by decide +kernel
theorem dX1_init_9 : decode cX1_init 9 = .ok (.iconst 0, 1) := by decide +kernel
theorem dX1_init_10 : decode cX1_init 10 = .ok (.goto 4, 3) := by decide +kernel
theorem dX1_init_13 : decode cX1_init 13 = .ok (.iload_n 1, 1) := by decide +kernel
theorem dX1_init_14 : decode cX1_init 14 = .ok (.newarray .int, 2) := by decide +kernel
theorem dX1_init_16 : decode cX1_init 16 = .ok (.putfield 9, 3) := by decide +kernel
theorem dX1_init_19 : decode cX1_init 19 = .ok (.return_, 1) := by decide +kernel
theorem dX1_size_0 : decode cX1_size 0 = .ok (.aload_n 0, 1) := by decide +kernel
theorem dX1_size_1 : decode cX1_size 1 = .ok (.getfield 15, 3) := by decide +kernel
theorem dX1_size_4 : decode cX1_size 4 = .ok (.ireturn, 1) := by decide +kernel
theorem dX1_at_0 : decode cX1_at 0 = .ok (.iload_n 1, 1) := by decide +kernel
theorem dX1_at_1 : decode cX1_at 1 = .ok (.ifCond .lt 29, 3) := by decide +kernel
theorem dX1_at_4 : decode cX1_at 4 = .ok (.iload_n 1, 1) := by decide +kernel
theorem dX1_at_5 : decode cX1_at 5 = .ok (.aload_n 0, 1) := by decide +kernel
theorem dX1_at_6 : decode cX1_at 6 = .ok (.getfield 15, 3) := by decide +kernel
theorem dX1_at_9 : decode cX1_at 9 = .ok (.if_icmp .ge 21, 3) := by decide +kernel
theorem dX1_at_12 : decode cX1_at 12 = .ok (.iload_n 1, 1) := by decide +kernel
theorem dX1_at_13 : decode cX1_at 13 = .ok (.aload_n 0, 1) := by decide +kernel
theorem dX1_at_14 : decode cX1_at 14 = .ok (.getfield 9, 3) := by decide +kernel
theorem dX1_at_17 : decode cX1_at 17 = .ok (.arraylength, 1) := by decide +kernel
theorem dX1_at_18 : decode cX1_at 18 = .ok (.if_icmp .ge 12, 3) := by decide +kernel
theorem dX1_at_21 : decode cX1_at 21 = .ok (.aload_n 0, 1) := by decide +kernel
theorem dX1_at_22 : decode cX1_at 22 = .ok (.getfield 9, 3) := by decide +kernel
theorem dX1_at_25 : decode cX1_at 25 = .ok (.iload_n 1, 1) := by decide +kernel
theorem dX1_at_26 : decode cX1_at 26 = .ok (.iaload, 1) := by decide +kernel
theorem dX1_at_27 : decode cX1_at 27 = .ok (.goto 4, 3) := by decide +kernel
theorem dX1_at_30 : decode cX1_at 30 = .ok (.iconst (-1), 1) := by decide +kernel
theorem dX1_at_31 : decode cX1_at 31 = .ok (.ireturn, 1) := by decide +kernel
theorem dX1_put_0 : decode cX1_put 0 = .ok (.aload_n 0, 1) := by decide +kernel
theorem dX1_put_1 : decode cX1_put 1 = .ok (.getfield 15, 3) := by decide +kernel
theorem dX1_put_4 : decode cX1_put 4 = .ok (.ifCond .lt 35, 3) := by decide +kernel
theorem dX1_put_7 : decode cX1_put 7 = .ok (.aload_n 0, 1) := by decide +kernel
theorem dX1_put_8 : decode cX1_put 8 = .ok (.getfield 15, 3) := by decide +kernel
theorem dX1_put_11 : decode cX1_put 11 = .ok (.aload_n 0, 1) := by decide +kernel
theorem dX1_put_12 : decode cX1_put 12 = .ok (.getfield 9, 3) := by decide +kernel
theorem dX1_put_15 : decode cX1_put 15 = .ok (.arraylength, 1) := by decide +kernel
theorem dX1_put_16 : decode cX1_put 16 = .ok (.if_icmp .ge 23, 3) := by decide +kernel
theorem dX1_put_19 : decode cX1_put 19 = .ok (.aload_n 0, 1) := by decide +kernel
theorem dX1_put_20 : decode cX1_put 20 = .ok (.getfield 9, 3) := by decide +kernel
theorem dX1_put_23 : decode cX1_put 23 = .ok (.aload_n 0, 1) := by decide +kernel
theorem dX1_put_24 : decode cX1_put 24 = .ok (.getfield 15, 3) := by decide +kernel
theorem dX1_put_27 : decode cX1_put 27 = .ok (.iload_n 1, 1) := by decide +kernel
theorem dX1_put_28 : decode cX1_put 28 = .ok (.iastore, 1) := by decide +kernel
theorem dX1_put_29 : decode cX1_put 29 = .ok (.aload_n 0, 1) := by decide +kernel
theorem dX1_put_30 : decode cX1_put 30 = .ok (.dup, 1) := by decide +kernel
theorem dX1_put_31 : decode cX1_put 31 = .ok (.getfield 15, 3) := by decide +kernel
theorem dX1_put_34 : decode cX1_put 34 = .ok (.iconst 1, 1) := by decide +kernel
theorem dX1_put_35 : decode cX1_put 35 = .ok (.iadd, 1) := by decide +kernel
theorem dX1_put_36 : decode cX1_put 36 = .ok (.putfield 15, 3) := by decide +kernel
theorem dX1_put_39 : decode cX1_put 39 = .ok (.return_, 1) := by decide +kernel
theorem dX1_clear_0 : decode cX1_clear 0 = .ok (.aload_n 0, 1) := by decide +kernel
theorem dX1_clear_1 : decode cX1_clear 1 = .ok (.iconst 0, 1) := by decide +kernel
theorem dX1_clear_2 : decode cX1_clear 2 = .ok (.putfield 15, 3) := by decide +kernel
theorem dX1_clear_5 : decode cX1_clear 5 = .ok (.return_, 1) := by decide +kernel
theorem dX1_takeLast_0 : decode cX1_takeLast 0 = .ok (.aload_n 0, 1) := by decide +kernel
theorem dX1_takeLast_1 : decode cX1_takeLast 1 = .ok (.getfield 15, 3) := by decide +kernel
theorem dX1_takeLast_4 : decode cX1_takeLast 4 = .ok (.ifCond .le 13, 3) := by decide +kernel
theorem dX1_takeLast_7 : decode cX1_takeLast 7 = .ok (.aload_n 0, 1) := by decide +kernel
theorem dX1_takeLast_8 : decode cX1_takeLast 8 = .ok (.dup, 1) := by decide +kernel
theorem dX1_takeLast_9 : decode cX1_takeLast 9 = .ok (.getfield 15, 3) := by decide +kernel
theorem dX1_takeLast_12 : decode cX1_takeLast 12 = .ok (.iconst 1, 1) := by decide +kernel
theorem dX1_takeLast_13 : decode cX1_takeLast 13 = .ok (.isub, 1) := by decide +kernel
theorem dX1_takeLast_14 : decode cX1_takeLast 14 = .ok (.putfield 15, 3) := by decide +kernel
theorem dX1_takeLast_17 : decode cX1_takeLast 17 = .ok (.return_, 1) := by decide +kernel
theorem dX1_copy_0 : decode cX1_copy 0 = .ok (.aload_n 0, 1) := by decide +kernel
theorem dX1_copy_1 : decode cX1_copy 1 = .ok (.iconst 0, 1) := by decide +kernel
theorem dX1_copy_2 : decode cX1_copy 2 = .ok (.putfield 15, 3) := by decide +kernel
theorem dX1_copy_5 : decode cX1_copy 5 = .ok (.aload_n 0, 1) := by decide +kernel
theorem dX1_copy_6 : decode cX1_copy 6 = .ok (.getfield 15, 3) := by decide +kernel
theorem dX1_copy_9 : decode cX1_copy 9 = .ok (.aload_n 1, 1) := by decide +kernel
theorem dX1_copy_10 : decode cX1_copy 10 = .ok (.getfield 15, 3) := by decide +kernel
theorem dX1_copy_13 : decode cX1_copy 13 = .ok (.if_icmp .ge 58, 3) := by decide +kernel
theorem dX1_copy_16 : decode cX1_copy 16 = .ok (.aload_n 0, 1) := by decide +kernel
theorem dX1_copy_17 : decode cX1_copy 17 = .ok (.getfield 15, 3) := by decide +kernel
theorem dX1_copy_20 : decode cX1_copy 20 = .ok (.aload_n 1, 1) := by decide +kernel
theorem dX1_copy_21 : decode cX1_copy 21 = .ok (.getfield 9, 3) := by decide +kernel
theorem dX1_copy_24 : decode cX1_copy 24 = .ok (.arraylength, 1) := by decide +kernel
theorem dX1_copy_25 : decode cX1_copy 25 = .ok (.if_icmp .ge 46, 3) := by decide +kernel
theorem dX1_copy_28 : decode cX1_copy 28 = .ok (.aload_n 0, 1) := by decide +kernel
theorem dX1_copy_29 : decode cX1_copy 29 = .ok (.getfield 15, 3) := by decide +kernel
theorem dX1_copy_32 : decode cX1_copy 32 = .ok (.aload_n 0, 1) := by decide +kernel
theorem dX1_copy_33 : decode cX1_copy 33 = .ok (.getfield 9, 3) := by decide +kernel
theorem dX1_copy_36 : decode cX1_copy 36 = .ok (.arraylength, 1) := by decide +kernel
theorem dX1_copy_37 : decode cX1_copy 37 = .ok (.if_icmp .ge 34, 3) := by decide +kernel
theorem dX1_copy_40 : decode cX1_copy 40 = .ok (.aload_n 0, 1) := by decide +kernel
theorem dX1_copy_41 : decode cX1_copy 41 = .ok (.getfield 9, 3) := by decide +kernel
theorem dX1_copy_44 : decode cX1_copy 44 = .ok (.aload_n 0, 1) := by decide +kernel
theorem dX1_copy_45 : decode cX1_copy 45 = .ok (.getfield 15, 3) := by decide +kernel
theorem dX1_copy_48 : decode cX1_copy 48 = .ok (.aload_n 1, 1) := by decide +kernel
theorem dX1_copy_49 : decode cX1_copy 49 = .ok (.getfield 9, 3) := by decide +kernel
theorem dX1_copy_52 : decode cX1_copy 52 = .ok (.aload_n 0, 1) := by decide +kernel
theorem dX1_copy_53 : decode cX1_copy 53 = .ok (.getfield 15, 3) := by decide +kernel
theorem dX1_copy_56 : decode cX1_copy 56 = .ok (.iaload, 1) := by decide +kernel
theorem dX1_copy_57 : decode cX1_copy 57 = .ok (.iastore, 1) := by decide +kernel
theorem dX1_copy_58 : decode cX1_copy 58 = .ok (.aload_n 0, 1) := by decide +kernel
theorem dX1_copy_59 : decode cX1_copy 59 = .ok (.dup, 1) := by decide +kernel
theorem dX1_copy_60 : decode cX1_copy 60 = .ok (.getfield 15, 3) := by decide +kernel
theorem dX1_copy_63 : decode cX1_copy 63 = .ok (.iconst 1, 1) := by decide +kernel
theorem dX1_copy_64 : decode cX1_copy 64 = .ok (.iadd, 1) := by decide +kernel
theorem dX1_copy_65 : decode cX1_copy 65 = .ok (.putfield 15, 3) := by decide +kernel
theorem dX1_copy_68 : decode cX1_copy 68 = .ok (.goto (-63), 3) := by decide +kernel
theorem dX1_copy_71 : decode cX1_copy 71 = .ok (.return_, 1) := by decide +kernel
theorem dX1_isSame_0 : decode cX1_isSame 0 = .ok (.aload_n 0, 1) := by decide +kernel
theorem dX1_isSame_1 : decode cX1_isSame 1 = .ok (.getfield 15, 3) := by decide +kernel
theorem dX1_isSame_4 : decode cX1_isSame 4 = .ok (.aload_n 1, 1) := by decide +kernel
theorem dX1_isSame_5 : decode cX1_isSame 5 = .ok (.getfield 15, 3) := by decide +kernel
theorem dX1_isSame_8 : decode cX1_isSame 8 = .ok (.if_icmp .eq 5, 3) := by decide +kernel
theorem dX1_isSame_11 : decode cX1_isSame 11 = .ok (.iconst 0, 1) := by decide +kernel
theorem dX1_isSame_12 : decode cX1_isSame 12 = .ok (.ireturn, 1) := by decide +kernel
theorem dX1_isSame_13 : decode cX1_isSame 13 = .ok (.iconst 0, 1) := by decide +kernel
theorem dX1_isSame_14 : decode cX1_isSame 14 = .ok (.istore_n 2, 1) := by decide +kernel
theorem dX1_isSame_15 : decode cX1_isSame 15 = .ok (.iload_n 2, 1) := by decide +kernel
theorem dX1_isSame_16 : decode cX1_isSame 16 = .ok (.aload_n 0, 1) := by decide +kernel
theorem dX1_isSame_17 : decode cX1_isSame 17 = .ok (.getfield 15, 3) := by decide +kernel
theorem dX1_isSame_20 : decode cX1_isSame 20 = .ok (.if_icmp .ge 24, 3) := by decide +kernel
theorem dX1_isSame_23 : decode cX1_isSame 23 = .ok (.aload_n 0, 1) := by decide +kernel
theorem dX1_isSame_24 : decode cX1_isSame 24 = .ok (.iload_n 2, 1) := by decide +kernel
theorem dX1_isSame_25 : decode cX1_isSame 25 = .ok (.invokevirtual 19, 3) := by decide +kernel
theorem dX1_isSame_28 : decode cX1_isSame 28 = .ok (.aload_n 1, 1) := by decide +kernel
theorem dX1_isSame_29 : decode cX1_isSame 29 = .ok (.iload_n 2, 1) := by decide +kernel
theorem dX1_isSame_30 : decode cX1_isSame 30 = .ok (.invokevirtual 19, 3) := by decide +kernel
theorem dX1_isSame_33 : decode cX1_isSame 33 = .ok (.if_icmp .eq 5, 3) := by decide +kernel
theorem dX1_isSame_36 : decode cX1_isSame 36 = .ok (.iconst 0, 1) := by decide +kernel
theorem dX1_isSame_37 : decode cX1_isSame 37 = .ok (.ireturn, 1) := by decide +kernel
theorem dX1_isSame_38 : decode cX1_isSame 38 = .ok (.iinc 2 1, 3) := by decide +kernel
theorem dX1_isSame_41 : decode cX1_isSame 41 = .ok (.goto (-26), 3) := by decide +kernel
theorem dX1_isSame_44 : decode cX1_isSame 44 = .ok (.iconst 1, 1) := by decide +kernel
theorem dX1_isSame_45 : decode cX1_isSame 45 = .ok (.ireturn, 1) := by decide +kernel
theorem dX1_part_0 : decode cX1_part 0 = .ok (.aload_n 1, 1) := by decide +kernel
theorem dX1_part_1 : decode cX1_part 1 = .ok (.getfield 15, 3) := by decide +kernel
theorem dX1_part_4 : decode cX1_part 4 = .ok (.ifCond .le 16, 3) := by decide +kernel
theorem dX1_part_7 : decode cX1_part 7 = .ok (.aload_n 0, 1) := by decide +kernel
theorem dX1_part_8 : decode cX1_part 8 = .ok (.getfield 15, 3) := by decide +kernel
theorem dX1_part_11 : decode cX1_part 11 = .ok (.ifCond .le 9, 3) := by decide +kernel
theorem dX1_part_14 : decode cX1_part 14 = .ok (.aload_n 0, 1) := by decide +kernel
theorem dX1_part_15 : decode cX1_part 15 = .ok (.bipush 32, 2) := by decide +kernel
theorem dX1_part_17 : decode cX1_part 17 = .ok (.invokevirtual 23, 3) := by decide +kernel
theorem dX1_part_20 : decode cX1_part 20 = .ok (.iconst 0, 1) := by decide +kernel
theorem dX1_part_21 : decode cX1_part 21 = .ok (.istore_n 2, 1) := by decide +kernel
theorem dX1_part_22 : decode cX1_part 22 = .ok (.iload_n 2, 1) := by decide +kernel
theorem dX1_part_23 : decode cX1_part 23 = .ok (.aload_n 1, 1) := by decide +kernel
theorem dX1_part_24 : decode cX1_part 24 = .ok (.getfield 15, 3) := by decide +kernel
theorem dX1_part_27 : decode cX1_part 27 = .ok (.if_icmp .ge 18, 3) := by decide +kernel
theorem dX1_part_30 : decode cX1_part 30 = .ok (.aload_n 0, 1) := by decide +kernel
theorem dX1_part_31 : decode cX1_part 31 = .ok (.aload_n 1, 1) := by decide +kernel
theorem dX1_part_32 : decode cX1_part 32 = .ok (.iload_n 2, 1) := by decide +kernel
theorem dX1_part_33 : decode cX1_part 33 = .ok (.invokevirtual 19, 3) := by decide +kernel
theorem dX1_part_36 : decode cX1_part 36 = .ok (.invokevirtual 23, 3) := by decide +kernel
theorem dX1_part_39 : decode cX1_part 39 = .ok (.iinc 2 1, 3) := by decide +kernel
theorem dX1_part_42 : decode cX1_part 42 = .ok (.goto (-20), 3) := by decide +kernel
theorem dX1_part_45 : decode cX1_part 45 = .ok (.return_, 1) := by decide +kernel
theorem dJ0_isEmpty_aae02_0 : decode cJ0_isEmpty_aae02 0 = .ok (.aload_n 0, 1) := by decide +kernel
theorem dJ0_isEmpty_aae02_1 : decode cJ0_isEmpty_aae02 1 = .ok (.getfield 9, 3) := by decide +kernel
theorem dJ0_isEmpty_aae02_4 : decode cJ0_isEmpty_aae02 4 = .ok (.arraylength, 1) := by decide +kernel
theorem dJ0_isEmpty_aae02_5 : decode cJ0_isEmpty_aae02 5 = .ok (.ifCond .ne 7, 3) := by decide +kernel
theorem dJ0_isEmpty_aae02_8 : decode cJ0_isEmpty_aae02 8 = .ok (.iconst 1, 1) := by decide +kernel
theorem dJ0_isEmpty_aae02_9 : decode cJ0_isEmpty_aae02 9 = .ok (.goto 4, 3) := by decide +kernel
theorem dJ0_isEmpty_aae02_12 : decode cJ0_isEmpty_aae02 12 = .ok (.iconst 0, 1) := by decide +kernel
theorem dJ0_isEmpty_aae02_13 : decode cJ0_isEmpty_aae02 13 = .ok (.ireturn, 1) := by decide +kernel
theorem dJ0_coder_7d493_0 : decode cJ0_coder_7d493 0 = .ok (.getstatic 38, 3) := by decide +kernel
theorem dJ0_coder_7d493_3 : decode cJ0_coder_7d493 3 = .ok (.ifCond .eq 10, 3) := by decide +kernel
theorem dJ0_coder_7d493_6 : decode cJ0_coder_7d493 6 = .ok (.aload_n 0, 1) := by decide +kernel
theorem dJ0_coder_7d493_7 : decode cJ0_coder_7d493 7 = .ok (.getfield 15, 3) := by decide +kernel
theorem dJ0_coder_7d493_10 : decode cJ0_coder_7d493 10 = .ok (.goto 4, 3) := by decide +kernel
theorem dJ0_coder_7d493_13 : decode cJ0_coder_7d493 13 = .ok (.iconst 1, 1) := by decide +kernel
theorem dJ0_coder_7d493_14 : decode cJ0_coder_7d493 14 = .ok (.ireturn, 1) := by decide +kernel
theorem dJ0_length_8abf5_0 : decode cJ0_length_8abf5 0 = .ok (.aload_n 0, 1) := by decide +kernel
theorem dJ0_length_8abf5_1 : decode cJ0_length_8abf5 1 = .ok (.getfield 9, 3) := by decide +kernel
theorem dJ0_length_8abf5_4 : decode cJ0_length_8abf5 4 = .ok (.arraylength, 1) := by decide +kernel
theorem dJ0_length_8abf5_5 : decode cJ0_length_8abf5 5 = .ok (.aload_n 0, 1) := by decide +kernel
theorem dJ0_length_8abf5_6 : decode cJ0_length_8abf5 6 = .ok (.invokevirtual 335, 3) := by decide +kernel
theorem dJ0_length_8abf5_9 : decode cJ0_length_8abf5 9 = .ok (.ishr, 1) := by decide +kernel
theorem dJ0_length_8abf5_10 : decode cJ0_length_8abf5 10 = .ok (.ireturn, 1) := by decide +kernel
theorem dJ0_isLatin1_aae02_0 : decode cJ0_isLatin1_aae02 0 = .ok (.getstatic 38, 3) := by decide +kernel
theorem dJ0_isLatin1_aae02_3 : decode cJ0_isLatin1_aae02 3 = .ok (.ifCond .eq 14, 3) := by decide +kernel
theorem dJ0_isLatin1_aae02_6 : decode cJ0_isLatin1_aae02 6 = .ok (.aload_n 0, 1) := by decide +kernel
theorem dJ0_isLatin1_aae02_7 : decode cJ0_isLatin1_aae02 7 = .ok (.getfield 15, 3) := by decide +kernel
theorem dJ0_isLatin1_aae02_10 : decode cJ0_isLatin1_aae02 10 = .ok (.ifCond .ne 7, 3) := by decide +kernel
theorem dJ0_isLatin1_aae02_13 : decode cJ0_isLatin1_aae02 13 = .ok (.iconst 1, 1) := by decide +kernel
theorem dJ0_isLatin1_aae02_14 : decode cJ0_isLatin1_aae02 14 = .ok (.goto 4, 3) := by decide +kernel
theorem dJ0_isLatin1_aae02_17 : decode cJ0_isLatin1_aae02 17 = .ok (.iconst 0, 1) := by decide +kernel
theorem dJ0_isLatin1_aae02_18 : decode cJ0_isLatin1_aae02 18 = .ok (.ireturn, 1) := by decide +kernel
theorem dJ3_checkIndex_8e157_0 : decode cJ3_checkIndex_8e157 0 = .ok (.iload_n 0, 1) := by decide +kernel
theorem dJ3_checkIndex_8e157_1 : decode cJ3_checkIndex_8e157 1 = .ok (.ifCond .lt 8, 3) := by decide +kernel
theorem dJ3_checkIndex_8e157_4 : decode cJ3_checkIndex_8e157 4 = .ok (.iload_n 0, 1) := by decide +kernel
theorem dJ3_checkIndex_8e157_5 : decode cJ3_checkIndex_8e157 5 = .ok (.iload_n 1, 1) := by decide +kernel
theorem dJ3_checkIndex_8e157_6 : decode cJ3_checkIndex_8e157 6 = .ok (.if_icmp .lt 10, 3) := by decide +kernel
theorem dJ3_checkIndex_8e157_9 : decode cJ3_checkIndex_8e157 9 = .ok (.aload_n 2, 1) := by decide +kernel
theorem dJ3_checkIndex_8e157_10 : decode cJ3_checkIndex_8e157 10 = .ok (.iload_n 0, 1) := by decide +kernel
theorem dJ3_checkIndex_8e157_11 : decode cJ3_checkIndex_8e157 11 = .ok (.iload_n 1, 1) := by decide +kernel
theorem dJ3_checkIndex_8e157_12 : decode cJ3_checkIndex_8e157 12 = .ok (.invokestatic 95, 3) := by decide +kernel
theorem dJ3_checkIndex_8e157_15 : decode cJ3_checkIndex_8e157 15 = .ok (.athrow, 1) := by decide +kernel
theorem dJ3_checkIndex_8e157_16 : decode cJ3_checkIndex_8e157 16 = .ok (.iload_n 0, 1) := by decide +kernel
theorem dJ3_checkIndex_8e157_17 : decode cJ3_checkIndex_8e157 17 = .ok (.ireturn, 1) := by decide +kernel
theorem dJ0_checkIndex_df160_0 : decode cJ0_checkIndex_df160 0 = .ok (.iload_n 0, 1) := by decide +kernel
theorem dJ0_checkIndex_df160_1 : decode cJ0_checkIndex_df160 1 = .ok (.iload_n 1, 1) := by decide +kernel
theorem dJ0_checkIndex_df160_2 : decode cJ0_checkIndex_df160 2 = .ok (.getstatic 1053, 3) := by decide +kernel
theorem dJ0_checkIndex_df160_5 : decode cJ0_checkIndex_df160 5 = .ok (.invokestatic 1059, 3) := by decide +kernel
theorem dJ0_checkIndex_df160_8 : decode cJ0_checkIndex_df160 8 = .ok (.pop, 1) := by decide +kernel
theorem dJ0_checkIndex_df160_9 : decode cJ0_checkIndex_df160 9 = .ok (.return_, 1) := by decide +kernel
theorem dJ1_charAt_3b067_0 : decode cJ1_charAt_3b067 0 = .ok (.iload_n 1, 1) := by decide +kernel
theorem dJ1_charAt_3b067_1 : decode cJ1_charAt_3b067 1 = .ok (.aload_n 0, 1) := by decide +kernel
theorem dJ1_charAt_3b067_2 : decode cJ1_charAt_3b067 2 = .ok (.arraylength, 1) := by decide +kernel
theorem dJ1_charAt_3b067_3 : decode cJ1_charAt_3b067 3 = .ok (.invokestatic 9, 3) := by decide +kernel
theorem dJ1_charAt_3b067_6 : decode cJ1_charAt_3b067 6 = .ok (.aload_n 0, 1) := by decide +kernel
theorem dJ1_charAt_3b067_7 : decode cJ1_charAt_3b067 7 = .ok (.iload_n 1, 1) := by decide +kernel
theorem dJ1_charAt_3b067_8 : decode cJ1_charAt_3b067 8 = .ok (.baload, 1) := by decide +kernel
theorem dJ1_charAt_3b067_9 : decode cJ1_charAt_3b067 9 = .ok (.sipush 255, 3) := by decide +kernel
theorem dJ1_charAt_3b067_12 : decode cJ1_charAt_3b067 12 = .ok (.iand, 1) := by decide +kernel
theorem dJ1_charAt_3b067_13 : decode cJ1_charAt_3b067 13 = .ok (.i2c, 1) := by decide +kernel
theorem dJ1_charAt_3b067_14 : decode cJ1_charAt_3b067 14 = .ok (.ireturn, 1) := by decide +kernel
theorem dJ0_charAt_5068e_0 : decode cJ0_charAt_5068e 0 = .ok (.aload_n 0, 1) := by decide +kernel
theorem dJ0_charAt_5068e_1 : decode cJ0_charAt_5068e 1 = .ok (.invokevirtual 492, 3) := by decide +kernel
theorem dJ0_charAt_5068e_4 : decode cJ0_charAt_5068e 4 = .ok (.ifCond .eq 12, 3) := by decide +kernel
theorem dJ0_charAt_5068e_7 : decode cJ0_charAt_5068e 7 = .ok (.aload_n 0, 1) := by decide +kernel
theorem dJ0_charAt_5068e_8 : decode cJ0_charAt_5068e 8 = .ok (.getfield 9, 3) := by decide +kernel
theorem dJ0_charAt_5068e_11 : decode cJ0_charAt_5068e 11 = .ok (.iload_n 1, 1) := by decide +kernel
theorem dJ0_charAt_5068e_12 : decode cJ0_charAt_5068e 12 = .ok (.invokestatic 495, 3) := by decide +kernel
theorem dJ0_charAt_5068e_15 : decode cJ0_charAt_5068e 15 = .ok (.ireturn, 1) := by decide +kernel
theorem dJ0_charAt_5068e_16 : decode cJ0_charAt_5068e 16 = .ok (.aload_n 0, 1) := by decide +kernel
theorem dJ0_charAt_5068e_17 : decode cJ0_charAt_5068e 17 = .ok (.getfield 9, 3) := by decide +kernel
theorem dJ0_charAt_5068e_20 : decode cJ0_charAt_5068e 20 = .ok (.iload_n 1, 1) := by decide +kernel
theorem dJ0_charAt_5068e_21 : decode cJ0_charAt_5068e 21 = .ok (.invokestatic 498, 3) := by decide +kernel
theorem dJ0_charAt_5068e_24 : decode cJ0_charAt_5068e 24 = .ok (.ireturn, 1) := by decide +kernel
theorem dX1_part__0 : decode cX1_part_ 0 = .ok (.aload_n 1, 1) := by decide +kernel
theorem dX1_part__1 : decode cX1_part_ 1 = .ok (.invokevirtual 27, 3) := by decide +kernel
theorem dX1_part__4 : decode cX1_part_ 4 = .ok (.ifCond .ne 16, 3) := by decide +kernel
theorem dX1_part__7 : decode cX1_part_ 7 = .ok (.aload_n 0, 1) := by decide +kernel
theorem dX1_part__8 : decode cX1_part_ 8 = .ok (.getfield 15, 3) := by decide +kernel
theorem dX1_part__11 : decode cX1_part_ 11 = .ok (.ifCond .le 9, 3) := by decide +kernel
theorem dX1_part__14 : decode cX1_part_ 14 = .ok (.aload_n 0, 1) := by decide +kernel
theorem dX1_part__15 : decode cX1_part_ 15 = .ok (.bipush 32, 2) := by decide +kernel
theorem dX1_part__17 : decode cX1_part_ 17 = .ok (.invokevirtual 23, 3) := by decide +kernel
theorem dX1_part__20 : decode cX1_part_ 20 = .ok (.iconst 0, 1) := by decide +kernel
theorem dX1_part__21 : decode cX1_part_ 21 = .ok (.istore_n 2, 1) := by decide +kernel
theorem dX1_part__22 : decode cX1_part_ 22 = .ok (.iload_n 2, 1) := by decide +kernel
theorem dX1_part__23 : decode cX1_part_ 23 = .ok (.aload_n 1, 1) := by decide +kernel
theorem dX1_part__24 : decode cX1_part_ 24 = .ok (.invokevirtual 33, 3) := by decide +kernel
theorem dX1_part__27 : decode cX1_part_ 27 = .ok (.if_icmp .ge 18, 3) := by decide +kernel
theorem dX1_part__30 : decode cX1_part_ 30 = .ok (.aload_n 0, 1) := by decide +kernel
theorem dX1_part__31 : decode cX1_part_ 31 = .ok (.aload_n 1, 1) := by decide +kernel
theorem dX1_part__32 : decode cX1_part_ 32 = .ok (.iload_n 2, 1) := by decide +kernel
theorem dX1_part__33 : decode cX1_part_ 33 = .ok (.invokevirtual 37, 3) := by decide +kernel
theorem dX1_part__36 : decode cX1_part_ 36 = .ok (.invokevirtual 23, 3) := by decide +kernel
theorem dX1_part__39 : decode cX1_part_ 39 = .ok (.iinc 2 1, 3) := by decide +kernel
theorem dX1_part__42 : decode cX1_part_ 42 = .ok (.goto (-20), 3) := by decide +kernel
theorem dX1_part__45 : decode cX1_part_ 45 = .ok (.return_, 1) := by decide +kernel
abbrev mX1_init : gM := (yX1_init, cX1_init, 2, (Option.none : Option FieldType), [])
theorem caX1_init : cal mX1_init 1 := ⟨xw 76 (by decide +kernel) rfl, xw 32 (by decide +kernel) rfl, by decide, by decide +kernel⟩
theorem ciX1_init : Cond.instanceMethod yX1_init ∈ XW := xw 75 (by decide +kernel) rfl
abbrev mX1_size : gM := (yX1_size, cX1_size, 1, (Option.some FieldType.int), [])
theorem caX1_size : cal mX1_size 0 := ⟨xw 398 (by decide +kernel) rfl, xw 32 (by decide +kernel) rfl, by decide, by decide +kernel⟩
theorem cvX1_size : calV mX1_size := ⟨xw 396 (by decide +kernel) rfl, xw 397 (by decide +kernel) rfl⟩
abbrev mX1_at : gM := (yX1_at, cX1_at, 2, (Option.some FieldType.int), [])
theorem caX1_at : cal mX1_at 1 := ⟨xw 402 (by decide +kernel) rfl, xw 32 (by decide +kernel) rfl, by decide, by decide +kernel⟩
theorem cvX1_at : calV mX1_at := ⟨xw 400 (by decide +kernel) rfl, xw 401 (by decide +kernel) rfl⟩
abbrev mX1_put : gM := (yX1_put, cX1_put, 2, (Option.none : Option FieldType), [])
theorem caX1_put : cal mX1_put 1 := ⟨xw 391 (by decide +kernel) rfl, xw 32 (by decide +kernel) rfl, by decide, by decide +kernel⟩
theorem cvX1_put : calV mX1_put := ⟨xw 389 (by decide +kernel) rfl, xw 390 (by decide +kernel) rfl⟩
abbrev mX1_clear : gM := (yX1_clear, cX1_clear, 1, (Option.none : Option FieldType), [])
theorem caX1_clear : cal mX1_clear 0 := ⟨xw 320 (by decide +kernel) rfl, xw 32 (by decide +kernel) rfl, by decide, by decide +kernel⟩
theorem cvX1_clear : calV mX1_clear := ⟨xw 318 (by decide +kernel) rfl, xw 319 (by decide +kernel) rfl⟩
abbrev mX1_takeLast : gM := (yX1_takeLast, cX1_takeLast, 1, (Option.none : Option FieldType), [])
theorem caX1_takeLast : cal mX1_takeLast 0 := ⟨xw 755 (by decide +kernel) rfl, xw 32 (by decide +kernel) rfl, by decide, by decide +kernel⟩
theorem cvX1_takeLast : calV mX1_takeLast := ⟨xw 753 (by decide +kernel) rfl, xw 754 (by decide +kernel) rfl⟩
abbrev mX1_copy : gM := (yX1_copy, cX1_copy, 2, (Option.none : Option FieldType), [])
theorem caX1_copy : cal mX1_copy 1 := ⟨xw 617 (by decide +kernel) rfl, xw 32 (by decide +kernel) rfl, by decide, by decide +kernel⟩
theorem cvX1_copy : calV mX1_copy := ⟨xw 615 (by decide +kernel) rfl, xw 616 (by decide +kernel) rfl⟩
abbrev mX1_isSame : gM := (yX1_isSame, cX1_isSame, 3, (Option.some FieldType.boolean), [])
theorem caX1_isSame : cal mX1_isSame 1 := ⟨xw 1094 (by decide +kernel) rfl, xw 32 (by decide +kernel) rfl, by decide, by decide +kernel⟩
theorem cvX1_isSame : calV mX1_isSame := ⟨xw 1092 (by decide +kernel) rfl, xw 1093 (by decide +kernel) rfl⟩
abbrev mX1_part : gM := (yX1_part, cX1_part, 3, (Option.none : Option FieldType), [])
theorem caX1_part : cal mX1_part 1 := ⟨xw 638 (by decide +kernel) rfl, xw 32 (by decide +kernel) rfl, by decide, by decide +kernel⟩
theorem cvX1_part : calV mX1_part := ⟨xw 636 (by decide +kernel) rfl, xw 637 (by decide +kernel) rfl⟩
abbrev mJ0_isEmpty_aae02 : gM := (yJ0_isEmpty_aae02, cJ0_isEmpty_aae02, 1, (Option.some FieldType.boolean), [])
theorem caJ0_isEmpty_aae02 : cal mJ0_isEmpty_aae02 0 := ⟨xw 342 (by decide +kernel) rfl, xw 40 (by decide +kernel) rfl, by decide, by decide +kernel⟩
theorem cvJ0_isEmpty_aae02 : calV mJ0_isEmpty_aae02 := ⟨xw 340 (by decide +kernel) rfl, xw 341 (by decide +kernel) rfl⟩
abbrev mJ0_coder_7d493 : gM := (yJ0_coder_7d493, cJ0_coder_7d493, 1, (Option.some FieldType.byte), [])
theorem caJ0_coder_7d493 : cal mJ0_coder_7d493 0 := ⟨xw 599 (by decide +kernel) rfl, xw 40 (by decide +kernel) rfl, by decide, by decide +kernel⟩
theorem cvJ0_coder_7d493 : calV mJ0_coder_7d493 := ⟨xw 597 (by decide +kernel) rfl, xw 598 (by decide +kernel) rfl⟩
abbrev mJ0_length_8abf5 : gM := (yJ0_length_8abf5, cJ0_length_8abf5, 1, (Option.some FieldType.int), [])
theorem caJ0_length_8abf5 : cal mJ0_length_8abf5 0 := ⟨xw 595 (by decide +kernel) rfl, xw 40 (by decide +kernel) rfl, by decide, by decide +kernel⟩
theorem cvJ0_length_8abf5 : calV mJ0_length_8abf5 := ⟨xw 593 (by decide +kernel) rfl, xw 594 (by decide +kernel) rfl⟩
abbrev mJ0_isLatin1_aae02 : gM := (yJ0_isLatin1_aae02, cJ0_isLatin1_aae02, 1, (Option.some FieldType.boolean), [])
theorem caJ0_isLatin1_aae02 : cal mJ0_isLatin1_aae02 0 := ⟨xw 350 (by decide +kernel) rfl, xw 40 (by decide +kernel) rfl, by decide, by decide +kernel⟩
theorem cvJ0_isLatin1_aae02 : calV mJ0_isLatin1_aae02 := ⟨xw 348 (by decide +kernel) rfl, xw 349 (by decide +kernel) rfl⟩
abbrev mJ3_checkIndex_8e157 : gM := (yJ3_checkIndex_8e157, cJ3_checkIndex_8e157, 3, (Option.some FieldType.int), [])
theorem caJ3_checkIndex_8e157 : cal mJ3_checkIndex_8e157 3 := ⟨xw 363 (by decide +kernel) rfl, xw 42 (by decide +kernel) rfl, by decide, by decide +kernel⟩
theorem csJ3_checkIndex_8e157 : Cond.static yJ3_checkIndex_8e157 ∈ XW := xw 362 (by decide +kernel) rfl
abbrev mJ0_checkIndex_df160 : gM := (yJ0_checkIndex_df160, cJ0_checkIndex_df160, 2, (Option.none : Option FieldType), [])
theorem caJ0_checkIndex_df160 : cal mJ0_checkIndex_df160 2 := ⟨xw 358 (by decide +kernel) rfl, xw 40 (by decide +kernel) rfl, by decide, by decide +kernel⟩
theorem csJ0_checkIndex_df160 : Cond.static yJ0_checkIndex_df160 ∈ XW := xw 357 (by decide +kernel) rfl
abbrev mJ1_charAt_3b067 : gM := (yJ1_charAt_3b067, cJ1_charAt_3b067, 2, (Option.some FieldType.char), [])
theorem caJ1_charAt_3b067 : cal mJ1_charAt_3b067 2 := ⟨xw 355 (by decide +kernel) rfl, xw 41 (by decide +kernel) rfl, by decide, by decide +kernel⟩
theorem csJ1_charAt_3b067 : Cond.static yJ1_charAt_3b067 ∈ XW := xw 354 (by decide +kernel) rfl
abbrev mJ0_charAt_5068e : gM := (yJ0_charAt_5068e, cJ0_charAt_5068e, 2, (Option.some FieldType.char), [])
theorem caJ0_charAt_5068e : cal mJ0_charAt_5068e 1 := ⟨xw 346 (by decide +kernel) rfl, xw 40 (by decide +kernel) rfl, by decide, by decide +kernel⟩
theorem cvJ0_charAt_5068e : calV mJ0_charAt_5068e := ⟨xw 344 (by decide +kernel) rfl, xw 345 (by decide +kernel) rfl⟩
abbrev mX1_part_ : gM := (yX1_part_, cX1_part_, 3, (Option.none : Option FieldType), [])
theorem caX1_part_ : cal mX1_part_ 1 := ⟨xw 589 (by decide +kernel) rfl, xw 32 (by decide +kernel) rfl, by decide, by decide +kernel⟩
theorem cvX1_part_ : calV mX1_part_ := ⟨xw 587 (by decide +kernel) rfl, xw 588 (by decide +kernel) rfl⟩
theorem oi_c : Cond.instanceMethod objectInit ∈ XW := xw 56 (by decide +kernel) rfl
theorem oi_d : Cond.code objectInit ⟨#[0xb1]⟩ 1 none ∈ XW := xw 57 (by decide +kernel) rfl
theorem lkX1_3 : Cond.methodLink RX1 3 objectInit ∈ XW := xw 77 (by decide +kernel) rfl
theorem flX1_9 : fl RX1 9 0 0 := ⟨by decide, by decide, xw 78 (by decide +kernel) rfl⟩
theorem pl_X1 : plainName RX1 = true := by decide +kernel
theorem flX1_15 : fl RX1 15 0 1 := ⟨by decide, by decide, xw 79 (by decide +kernel) rfl⟩
theorem lkX1_19 : Cond.methodLink RX1 19 yX1_at ∈ XW := xw 639 (by decide +kernel) rfl
theorem lkX1_23 : Cond.methodLink RX1 23 yX1_put ∈ XW := xw 591 (by decide +kernel) rfl
theorem flJ0_9 : Cond.fieldLink RJ0 9 "java/lang/String" "value" "[B" ∈ XW := xw 1272 (by decide +kernel) rfl
theorem pl_J0 : plainName RJ0 = true := by decide +kernel
theorem flJ0_38 : Cond.fieldLink RJ0 38 "java/lang/String" "COMPACT_STRINGS" "Z" ∈ XW := xw 351 (by decide +kernel) rfl
theorem flJ0_15 : Cond.fieldLink RJ0 15 "java/lang/String" "coder" "B" ∈ XW := xw 1273 (by decide +kernel) rfl
theorem lkJ0_335 : Cond.methodLink RJ0 335 yJ0_coder_7d493 ∈ XW := xw 596 (by decide +kernel) rfl
theorem pl_J3 : plainName RJ3 = true := by decide +kernel
theorem flJ0_1053 : Cond.fieldLink RJ0 1053 "jdk/internal/util/Preconditions" "SIOOBE_FORMATTER" "Ljava/util/function/BiFunction;" ∈ XW := xw 359 (by decide +kernel) rfl
theorem lkJ0_1059 : Cond.methodLink RJ0 1059 yJ3_checkIndex_8e157 ∈ XW := xw 361 (by decide +kernel) rfl
theorem lkJ1_9 : Cond.methodLink RJ1 9 yJ0_checkIndex_df160 ∈ XW := xw 356 (by decide +kernel) rfl
theorem pl_J1 : plainName RJ1 = true := by decide +kernel
theorem lkJ0_492 : Cond.methodLink RJ0 492 yJ0_isLatin1_aae02 ∈ XW := xw 347 (by decide +kernel) rfl
theorem lkJ0_495 : Cond.methodLink RJ0 495 yJ1_charAt_3b067 ∈ XW := xw 353 (by decide +kernel) rfl
theorem lkX1_27 : Cond.methodLink RX1 27 yJ0_isEmpty_aae02 ∈ XW := xw 590 (by decide +kernel) rfl
theorem lkX1_33 : Cond.methodLink RX1 33 yJ0_length_8abf5 ∈ XW := xw 592 (by decide +kernel) rfl
theorem lkX1_37 : Cond.methodLink RX1 37 yJ0_charAt_5068e ∈ XW := xw 600 (by decide +kernel) rfl
/-! BrailleDesk$Codes.<init> -/
theorem tX1_init {G : gG} (a0 : Nat) (a1 : Int32) (h : hp) (Q : hQ) (hF : okB (fX1_init a0 a1 h) (pH gU Q)) : gS G mX1_init 1 1 100 [sr (some a0), si a1] h Q := by
  delta fX1_init at hF
  refine gS_at [some (sr (some a0)), some (si a1)] pl_X1 rfl (Nat.le_of_ble_eq_true rfl) rfl ?_
  refine v_aload_n (pc := 0) (i := 0) dX1_init_0 rfl rfl ?_
  refine v_objI (pc := 1) dX1_init_1 lkX1_3 oi_c oi_d (Nat.le_of_ble_eq_true rfl) (by decide) ?_
  refine v_aload_n (pc := 4) (i := 0) dX1_init_4 rfl rfl ?_
  refine v_iload_n (pc := 5) (i := 1) dX1_init_5 rfl rfl ?_
  refine mg (X := fun q1 => gV G mX1_init 1 Q 14 [none, none] [si q1, sr (some a0)] (1) (100) h) hF (fun _ hj2 hF => ?_) (fun q1 hF => ?_)
  · refine v_if_ge (pc := 6) 13 dX1_init_6 rfl (fun hc => ?_) (fun hc => ?_)
    · replace hF := (okB_if hF).1 hc
      refine v_iload_n (pc := 13) (i := 1) dX1_init_13 rfl rfl ?_
      exact v_lle [none, none] trivial (hj2 a1 (okB_some hF))
    replace hF := (okB_if hF).2 hc
    refine v_iconst (pc := 9) (v := (0 : Int32)) dX1_init_9 rfl ?_
    refine v_goto (pc := 10) 14 dX1_init_10 rfl ?_
    exact v_lle [none, none] trivial (hj2 (0 : Int32) (okB_some hF))
  refine s_newM (pc := 14) (k := 0) (n := 0) dX1_init_14 hF (fun n3 hF => ?_)
  refine s_putR (pc := 16) dX1_init_16 flX1_9 (Or.inr ⟨rfl, rfl, rfl⟩) rfl hF (fun h4 hF => ?_)
  exact v_ret (pc := 19) dX1_init_19 rfl (okr hF fun q => q)
/-! BrailleDesk$Codes.size -/
theorem tX1_size {G : gG} (a0 : Nat) (h : hp) (Q : hQ) (hF : okB (fX1_size a0 h) (pP gI Q h)) : gS G mX1_size 0 0 0 [sr (some a0)] h Q := by
  delta fX1_size at hF
  refine gS_at [some (sr (some a0))] pl_X1 rfl (Nat.le_of_ble_eq_true rfl) rfl ?_
  refine v_aload_n (pc := 0) (i := 0) dX1_size_0 rfl rfl ?_
  refine s_getI (pc := 1) dX1_size_1 flX1_15 rfl hF (fun x1 hF => ?_)
  exact v_iret (pc := 4) dX1_size_4 rfl rfl (okr hF fun q => q)
/-! BrailleDesk$Codes.at -/
theorem tX1_at {G : gG} (a0 : Nat) (a1 : Int32) (h : hp) (Q : hQ) (hF : okB (fX1_at a0 a1 h) (pP gI Q h)) : gS G mX1_at 0 0 0 [sr (some a0), si a1] h Q := by
  delta fX1_at at hF
  refine gS_at [some (sr (some a0)), some (si a1)] pl_X1 rfl (Nat.le_of_ble_eq_true rfl) rfl ?_
  refine v_iload_n (pc := 0) (i := 1) dX1_at_0 rfl rfl ?_
  refine v_if_lt (pc := 1) 30 dX1_at_1 rfl (fun hc => ?_) (fun hc => ?_)
  · replace hF := (okB_if hF).1 hc
    refine v_iconst (pc := 30) (v := (-1 : Int32)) dX1_at_30 rfl ?_
    exact v_iret (pc := 31) dX1_at_31 rfl rfl (okr hF fun q => q)
  replace hF := (okB_if hF).2 hc
  refine v_iload_n (pc := 4) (i := 1) dX1_at_4 rfl rfl ?_
  refine v_aload_n (pc := 5) (i := 0) dX1_at_5 rfl rfl ?_
  refine s_getI (pc := 6) dX1_at_6 flX1_15 rfl hF (fun x1 hF => ?_)
  refine v_icmp_ge (pc := 9) 30 dX1_at_9 rfl (fun hc => ?_) (fun hc => ?_)
  · replace hF := (okB_if hF).1 hc
    refine v_iconst (pc := 30) (v := (-1 : Int32)) dX1_at_30 rfl ?_
    exact v_iret (pc := 31) dX1_at_31 rfl rfl (okr hF fun q => q)
  replace hF := (okB_if hF).2 hc
  refine v_iload_n (pc := 12) (i := 1) dX1_at_12 rfl rfl ?_
  refine v_aload_n (pc := 13) (i := 0) dX1_at_13 rfl rfl ?_
  refine s_getR (pc := 14) dX1_at_14 flX1_9 rfl hF (fun x2 hF => ?_)
  refine s_alen (pc := 17) dX1_at_17 hF (fun x3 hF => ?_)
  refine v_icmp_ge (pc := 18) 30 dX1_at_18 rfl (fun hc => ?_) (fun hc => ?_)
  · replace hF := (okB_if hF).1 hc
    refine v_iconst (pc := 30) (v := (-1 : Int32)) dX1_at_30 rfl ?_
    exact v_iret (pc := 31) dX1_at_31 rfl rfl (okr hF fun q => q)
  replace hF := (okB_if hF).2 hc
  refine v_aload_n (pc := 21) (i := 0) dX1_at_21 rfl rfl ?_
  refine s_getR (pc := 22) dX1_at_22 flX1_9 rfl hF (fun x4 hF => ?_)
  refine v_iload_n (pc := 25) (i := 1) dX1_at_25 rfl rfl ?_
  refine s_iald (pc := 26) dX1_at_26 hF (fun x5 hF => ?_)
  refine v_goto (pc := 27) 31 dX1_at_27 rfl ?_
  exact v_iret (pc := 31) dX1_at_31 rfl rfl (okr hF fun q => q)
/-! BrailleDesk$Codes.put -/
theorem tX1_put {G : gG} (a0 : Nat) (a1 : Int32) (h : hp) (Q : hQ) (hF : okB (fX1_put a0 a1 h) (pH gU Q)) : gS G mX1_put 0 0 0 [sr (some a0), si a1] h Q := by
  delta fX1_put at hF
  refine gS_at [some (sr (some a0)), some (si a1)] pl_X1 rfl (Nat.le_of_ble_eq_true rfl) rfl ?_
  refine v_aload_n (pc := 0) (i := 0) dX1_put_0 rfl rfl ?_
  refine s_getI (pc := 1) dX1_put_1 flX1_15 rfl hF (fun x1 hF => ?_)
  refine v_if_lt (pc := 4) 39 dX1_put_4 rfl (fun hc => ?_) (fun hc => ?_)
  · replace hF := (okB_if hF).1 hc
    exact v_ret (pc := 39) dX1_put_39 rfl (okr hF fun q => q)
  replace hF := (okB_if hF).2 hc
  refine v_aload_n (pc := 7) (i := 0) dX1_put_7 rfl rfl ?_
  refine s_getI (pc := 8) dX1_put_8 flX1_15 rfl hF (fun x2 hF => ?_)
  refine v_aload_n (pc := 11) (i := 0) dX1_put_11 rfl rfl ?_
  refine s_getR (pc := 12) dX1_put_12 flX1_9 rfl hF (fun x3 hF => ?_)
  refine s_alen (pc := 15) dX1_put_15 hF (fun x4 hF => ?_)
  refine v_icmp_ge (pc := 16) 39 dX1_put_16 rfl (fun hc => ?_) (fun hc => ?_)
  · replace hF := (okB_if hF).1 hc
    exact v_ret (pc := 39) dX1_put_39 rfl (okr hF fun q => q)
  replace hF := (okB_if hF).2 hc
  refine v_aload_n (pc := 19) (i := 0) dX1_put_19 rfl rfl ?_
  refine s_getR (pc := 20) dX1_put_20 flX1_9 rfl hF (fun x5 hF => ?_)
  refine v_aload_n (pc := 23) (i := 0) dX1_put_23 rfl rfl ?_
  refine s_getI (pc := 24) dX1_put_24 flX1_15 rfl hF (fun x6 hF => ?_)
  refine v_iload_n (pc := 27) (i := 1) dX1_put_27 rfl rfl ?_
  refine s_iast (pc := 28) dX1_put_28 hF (fun h7 hF => ?_)
  refine v_aload_n (pc := 29) (i := 0) dX1_put_29 rfl rfl ?_
  refine v_dup (pc := 30) dX1_put_30 rfl ?_
  refine s_getI (pc := 31) dX1_put_31 flX1_15 rfl hF (fun x8 hF => ?_)
  refine v_iconst (pc := 34) (v := (1 : Int32)) dX1_put_34 rfl ?_
  refine v_iadd (pc := 35) dX1_put_35 ?_
  refine s_putI (pc := 36) dX1_put_36 flX1_15 (Or.inl rfl) rfl hF (fun h9 hF => ?_)
  exact v_ret (pc := 39) dX1_put_39 rfl (okr hF fun q => q)
/-! BrailleDesk$Codes.clear -/
theorem tX1_clear {G : gG} (a0 : Nat) (h : hp) (Q : hQ) (hF : okB (fX1_clear a0 h) (pH gU Q)) : gS G mX1_clear 0 0 0 [sr (some a0)] h Q := by
  delta fX1_clear at hF
  refine gS_at [some (sr (some a0))] pl_X1 rfl (Nat.le_of_ble_eq_true rfl) rfl ?_
  refine v_aload_n (pc := 0) (i := 0) dX1_clear_0 rfl rfl ?_
  refine v_iconst (pc := 1) (v := (0 : Int32)) dX1_clear_1 rfl ?_
  refine s_putI (pc := 2) dX1_clear_2 flX1_15 (Or.inl rfl) rfl hF (fun h1 hF => ?_)
  exact v_ret (pc := 5) dX1_clear_5 rfl (okr hF fun q => q)
/-! BrailleDesk$Codes.takeLast -/
theorem tX1_takeLast {G : gG} (a0 : Nat) (h : hp) (Q : hQ) (hF : okB (fX1_takeLast a0 h) (pH gU Q)) : gS G mX1_takeLast 0 0 0 [sr (some a0)] h Q := by
  delta fX1_takeLast at hF
  refine gS_at [some (sr (some a0))] pl_X1 rfl (Nat.le_of_ble_eq_true rfl) rfl ?_
  refine v_aload_n (pc := 0) (i := 0) dX1_takeLast_0 rfl rfl ?_
  refine s_getI (pc := 1) dX1_takeLast_1 flX1_15 rfl hF (fun x1 hF => ?_)
  refine v_if_le (pc := 4) 17 dX1_takeLast_4 rfl (fun hc => ?_) (fun hc => ?_)
  · replace hF := (okB_if hF).1 hc
    exact v_ret (pc := 17) dX1_takeLast_17 rfl (okr hF fun q => q)
  replace hF := (okB_if hF).2 hc
  refine v_aload_n (pc := 7) (i := 0) dX1_takeLast_7 rfl rfl ?_
  refine v_dup (pc := 8) dX1_takeLast_8 rfl ?_
  refine s_getI (pc := 9) dX1_takeLast_9 flX1_15 rfl hF (fun x2 hF => ?_)
  refine v_iconst (pc := 12) (v := (1 : Int32)) dX1_takeLast_12 rfl ?_
  refine v_isub (pc := 13) dX1_takeLast_13 ?_
  refine s_putI (pc := 14) dX1_takeLast_14 flX1_15 (Or.inl rfl) rfl hF (fun h3 hF => ?_)
  exact v_ret (pc := 17) dX1_takeLast_17 rfl (okr hF fun q => q)
/-! BrailleDesk$Codes.copy -/
theorem lX1_copy_5 {G : gG} {Q : hQ} {P : hp → Prop} {k n : Nat} (c0 : Nat) (c1 : (Option Nat)) (hJ : ∀ q : hp, P q → gV G mX1_copy 0 Q 71 [none, none] [] (k) (n) q) : ∀ (fu : Nat) (a : hp), okB (itr (fX1_copy_B5 c0 c1) fu a) P → gV G mX1_copy 0 Q 5 [some (sr (some c0)), some (sr c1)] [] (k) (n) a :=
  lpg (X := fun (a : hp) => gV G mX1_copy 0 Q 5 [some (sr (some c0)), some (sr c1)] [] (k) (n) a) (fun a P2 hL hE hF => by
    delta fX1_copy_B5 at hF
    refine v_aload_n (pc := 5) (i := 0) dX1_copy_5 rfl rfl ?_
    refine s_getI (pc := 6) dX1_copy_6 flX1_15 rfl hF (fun x1 hF => ?_)
    refine v_aload_n (pc := 9) (i := 1) dX1_copy_9 rfl rfl ?_
    refine s_getI (pc := 10) dX1_copy_10 flX1_15 rfl hF (fun x2 hF => ?_)
    refine v_icmp_ge (pc := 13) 71 dX1_copy_13 rfl (fun hc => ?_) (fun hc => ?_)
    · replace hF := (okB_if hF).1 hc
      exact v_lle [none, none] trivial (hJ a (hE _ (okB_some hF)))
    replace hF := (okB_if hF).2 hc
    refine v_aload_n (pc := 16) (i := 0) dX1_copy_16 rfl rfl ?_
    refine s_getI (pc := 17) dX1_copy_17 flX1_15 rfl hF (fun x3 hF => ?_)
    refine v_aload_n (pc := 20) (i := 1) dX1_copy_20 rfl rfl ?_
    refine s_getR (pc := 21) dX1_copy_21 flX1_9 rfl hF (fun x4 hF => ?_)
    refine s_alen (pc := 24) dX1_copy_24 hF (fun x5 hF => ?_)
    refine v_icmp_ge (pc := 25) 71 dX1_copy_25 rfl (fun hc => ?_) (fun hc => ?_)
    · replace hF := (okB_if hF).1 hc
      exact v_lle [none, none] trivial (hJ a (hE _ (okB_some hF)))
    replace hF := (okB_if hF).2 hc
    refine v_aload_n (pc := 28) (i := 0) dX1_copy_28 rfl rfl ?_
    refine s_getI (pc := 29) dX1_copy_29 flX1_15 rfl hF (fun x6 hF => ?_)
    refine v_aload_n (pc := 32) (i := 0) dX1_copy_32 rfl rfl ?_
    refine s_getR (pc := 33) dX1_copy_33 flX1_9 rfl hF (fun x7 hF => ?_)
    refine s_alen (pc := 36) dX1_copy_36 hF (fun x8 hF => ?_)
    refine v_icmp_ge (pc := 37) 71 dX1_copy_37 rfl (fun hc => ?_) (fun hc => ?_)
    · replace hF := (okB_if hF).1 hc
      exact v_lle [none, none] trivial (hJ a (hE _ (okB_some hF)))
    replace hF := (okB_if hF).2 hc
    refine v_aload_n (pc := 40) (i := 0) dX1_copy_40 rfl rfl ?_
    refine s_getR (pc := 41) dX1_copy_41 flX1_9 rfl hF (fun x9 hF => ?_)
    refine v_aload_n (pc := 44) (i := 0) dX1_copy_44 rfl rfl ?_
    refine s_getI (pc := 45) dX1_copy_45 flX1_15 rfl hF (fun x10 hF => ?_)
    refine v_aload_n (pc := 48) (i := 1) dX1_copy_48 rfl rfl ?_
    refine s_getR (pc := 49) dX1_copy_49 flX1_9 rfl hF (fun x11 hF => ?_)
    refine v_aload_n (pc := 52) (i := 0) dX1_copy_52 rfl rfl ?_
    refine s_getI (pc := 53) dX1_copy_53 flX1_15 rfl hF (fun x12 hF => ?_)
    refine s_iald (pc := 56) dX1_copy_56 hF (fun x13 hF => ?_)
    refine s_iast (pc := 57) dX1_copy_57 hF (fun h14 hF => ?_)
    refine v_aload_n (pc := 58) (i := 0) dX1_copy_58 rfl rfl ?_
    refine v_dup (pc := 59) dX1_copy_59 rfl ?_
    refine s_getI (pc := 60) dX1_copy_60 flX1_15 rfl hF (fun x15 hF => ?_)
    refine v_iconst (pc := 63) (v := (1 : Int32)) dX1_copy_63 rfl ?_
    refine v_iadd (pc := 64) dX1_copy_64 ?_
    refine s_putI (pc := 65) dX1_copy_65 flX1_15 (Or.inl rfl) rfl hF (fun h16 hF => ?_)
    refine v_goto (pc := 68) 5 dX1_copy_68 rfl ?_
    exact v_lle [some (sr (some c0)), some (sr c1)] ⟨rfl, rfl, trivial⟩ (hL h16 (okB_some hF)))
theorem tX1_copy {G : gG} (a0 : Nat) (a1 : (Option Nat)) (h : hp) (Q : hQ) (hF : okB (fX1_copy a0 a1 h) (pH gU Q)) : gS G mX1_copy 0 0 0 [sr (some a0), sr a1] h Q := by
  delta fX1_copy at hF
  refine gS_at [some (sr (some a0)), some (sr a1)] pl_X1 rfl (Nat.le_of_ble_eq_true rfl) rfl ?_
  refine v_aload_n (pc := 0) (i := 0) dX1_copy_0 rfl rfl ?_
  refine v_iconst (pc := 1) (v := (0 : Int32)) dX1_copy_1 rfl ?_
  refine s_putI (pc := 2) dX1_copy_2 flX1_15 (Or.inl rfl) rfl hF (fun h1 hF => ?_)
  refine mg (X := fun q2 => gV G mX1_copy 0 Q 71 [none, none] [] (0) (0) q2) hF (fun _ hj3 hF => v_lle [some (sr (some a0)), some (sr a1)] ⟨rfl, rfl, trivial⟩ (lX1_copy_5 a0 a1 hj3 FU h1 hF)) (fun q2 hF => ?_)
  exact v_ret (pc := 71) dX1_copy_71 rfl (okr hF fun q => q)
/-! BrailleDesk$Codes.isSame -/
theorem lX1_isSame_15 {G : gG} {Q : hQ} {P : (Int32 ⊕ Unit) → Prop} {k n : Nat} (c0 : Nat) (c1 : (Option Nat)) (h : hp) (hJ : ∀ q : Unit, P (.inr q) → gV G mX1_isSame 1 Q 44 [none, none, none] [] (k) (n) h) (hR : ∀ r : Int32, P (.inl (r)) → (pP gI Q h) r) : ∀ (fu : Nat) (a : Int32), okB (itr (fX1_isSame_B15 c0 c1 h) fu a) P → gV G mX1_isSame 1 Q 15 [some (sr (some c0)), some (sr c1), some (si a)] [] (k) (n) h :=
  lpg (X := fun (a : Int32) => gV G mX1_isSame 1 Q 15 [some (sr (some c0)), some (sr c1), some (si a)] [] (k) (n) h) (fun a P2 hL hE hF => by
    delta fX1_isSame_B15 at hF
    refine v_iload_n (pc := 15) (i := 2) dX1_isSame_15 rfl rfl ?_
    refine v_aload_n (pc := 16) (i := 0) dX1_isSame_16 rfl rfl ?_
    refine s_getI (pc := 17) dX1_isSame_17 flX1_15 rfl hF (fun x1 hF => ?_)
    refine v_icmp_ge (pc := 20) 44 dX1_isSame_20 rfl (fun hc => ?_) (fun hc => ?_)
    · replace hF := (okB_if hF).1 hc
      exact v_lle [none, none, none] trivial (hJ () (hE _ (okB_some hF)))
    replace hF := (okB_if hF).2 hc
    refine v_aload_n (pc := 23) (i := 0) dX1_isSame_23 rfl rfl ?_
    refine v_iload_n (pc := 24) (i := 2) dX1_isSame_24 rfl rfl ?_
    refine cp_V (pc := 25) gI (as := [si a]) (st := []) (ci := 0) (N := mX1_at) (k := k) (n := n) (k1 := 0) (n1 := 0) dX1_isSame_25 lkX1_19 caX1_at cvX1_at rfl (by decide) rfl (fun b Q1 hq => tX1_at b a h Q1 hq) ⟨by decide, by decide⟩ (Nat.le_of_ble_eq_true rfl) rfl hF (fun x2 hF => ?_)
    show gV G mX1_isSame 1 Q 28 [some (sr (some c0)), some (sr c1), some (si a)] [si x2] (k) (n) h
    refine v_aload_n (pc := 28) (i := 1) dX1_isSame_28 rfl rfl ?_
    refine v_iload_n (pc := 29) (i := 2) dX1_isSame_29 rfl rfl ?_
    refine cp_V (pc := 30) gI (as := [si a]) (st := [si x2]) (ci := 0) (N := mX1_at) (k := k) (n := n) (k1 := 0) (n1 := 0) dX1_isSame_30 lkX1_19 caX1_at cvX1_at rfl (by decide) rfl (fun b Q1 hq => tX1_at b a h Q1 hq) ⟨by decide, by decide⟩ (Nat.le_of_ble_eq_true rfl) rfl hF (fun x3 hF => ?_)
    show gV G mX1_isSame 1 Q 33 [some (sr (some c0)), some (sr c1), some (si a)] [si x3, si x2] (k) (n) h
    refine v_icmp_eq (pc := 33) 38 dX1_isSame_33 rfl (fun hc => ?_) (fun hc => ?_)
    · replace hF := (okB_if hF).1 hc
      refine v_iinc (pc := 38) (i := 2) (a + (1 : Int32)) [some (sr (some c0)), some (sr c1), some (si (a + (1 : Int32)))] dX1_isSame_38 rfl rfl rfl rfl ?_
      refine v_goto (pc := 41) 15 dX1_isSame_41 rfl ?_
      exact v_lle [some (sr (some c0)), some (sr c1), some (si (a + (1 : Int32)))] ⟨rfl, rfl, rfl, trivial⟩ (hL (a + (1 : Int32)) (okB_some hF))
    replace hF := (okB_if hF).2 hc
    refine v_iconst (pc := 36) (v := (0 : Int32)) dX1_isSame_36 rfl ?_
    exact v_iret (pc := 37) dX1_isSame_37 rfl rfl (hR _ (hE _ (okB_some hF))))
theorem tX1_isSame {G : gG} (a0 : Nat) (a1 : (Option Nat)) (h : hp) (Q : hQ) (hF : okB (fX1_isSame a0 a1 h) (pP gI Q h)) : gS G mX1_isSame 1 0 0 [sr (some a0), sr a1] h Q := by
  delta fX1_isSame at hF
  refine gS_at [some (sr (some a0)), some (sr a1), none] pl_X1 rfl (Nat.le_of_ble_eq_true rfl) rfl ?_
  refine v_aload_n (pc := 0) (i := 0) dX1_isSame_0 rfl rfl ?_
  refine s_getI (pc := 1) dX1_isSame_1 flX1_15 rfl hF (fun x1 hF => ?_)
  refine v_aload_n (pc := 4) (i := 1) dX1_isSame_4 rfl rfl ?_
  refine s_getI (pc := 5) dX1_isSame_5 flX1_15 rfl hF (fun x2 hF => ?_)
  refine v_icmp_eq (pc := 8) 13 dX1_isSame_8 rfl (fun hc => ?_) (fun hc => ?_)
  · replace hF := (okB_if hF).1 hc
    refine v_iconst (pc := 13) (v := (0 : Int32)) dX1_isSame_13 rfl ?_
    refine v_istore_n (pc := 14) (i := 2) [some (sr (some a0)), some (sr a1), some (si (0 : Int32))] dX1_isSame_14 rfl (by decide) rfl rfl ?_
    refine mgR (X := fun q3 => gV G mX1_isSame 1 Q 44 [none, none, none] [] (0) (0) h) hF (fun _ hj4 hr4 hF => v_lle [some (sr (some a0)), some (sr a1), some (si (0 : Int32))] ⟨rfl, rfl, rfl, trivial⟩ (lX1_isSame_15 a0 a1 h hj4 (fun _ hp => (hr4 _ hp)) FU (0 : Int32) hF)) (fun q3 hF => ?_)
    refine v_iconst (pc := 44) (v := (1 : Int32)) dX1_isSame_44 rfl ?_
    exact v_iret (pc := 45) dX1_isSame_45 rfl rfl (okr hF fun q => q)
  replace hF := (okB_if hF).2 hc
  refine v_iconst (pc := 11) (v := (0 : Int32)) dX1_isSame_11 rfl ?_
  exact v_iret (pc := 12) dX1_isSame_12 rfl rfl (okr hF fun q => q)
/-! BrailleDesk$Codes.part -/
theorem lX1_part_22 {G : gG} {Q : hQ} {P : hp → Prop} {k n : Nat} (c0 : Nat) (c1 : (Option Nat)) (hJ : ∀ q : hp, P q → gV G mX1_part 1 Q 45 [none, none, none] [] (k) (n) q) : ∀ (fu : Nat) (a : (Int32 × hp)), okB (itr (fX1_part_B22 c0 c1) fu a) P → gV G mX1_part 1 Q 22 [some (sr (some c0)), some (sr c1), some (si a.1)] [] (k) (n) a.2 :=
  lpg (X := fun (a : (Int32 × hp)) => gV G mX1_part 1 Q 22 [some (sr (some c0)), some (sr c1), some (si a.1)] [] (k) (n) a.2) (fun a P2 hL hE hF => by
    delta fX1_part_B22 at hF
    refine v_iload_n (pc := 22) (i := 2) dX1_part_22 rfl rfl ?_
    refine v_aload_n (pc := 23) (i := 1) dX1_part_23 rfl rfl ?_
    refine s_getI (pc := 24) dX1_part_24 flX1_15 rfl hF (fun x1 hF => ?_)
    refine v_icmp_ge (pc := 27) 45 dX1_part_27 rfl (fun hc => ?_) (fun hc => ?_)
    · replace hF := (okB_if hF).1 hc
      exact v_lle [none, none, none] trivial (hJ a.2 (hE _ (okB_some hF)))
    replace hF := (okB_if hF).2 hc
    refine v_aload_n (pc := 30) (i := 0) dX1_part_30 rfl rfl ?_
    refine v_aload_n (pc := 31) (i := 1) dX1_part_31 rfl rfl ?_
    refine v_iload_n (pc := 32) (i := 2) dX1_part_32 rfl rfl ?_
    refine cp_V (pc := 33) gI (as := [si a.1]) (st := [sr (some c0)]) (ci := 0) (N := mX1_at) (k := k) (n := n) (k1 := 0) (n1 := 0) dX1_part_33 lkX1_19 caX1_at cvX1_at rfl (by decide) rfl (fun b Q1 hq => tX1_at b a.1 a.2 Q1 hq) ⟨by decide, by decide⟩ (Nat.le_of_ble_eq_true rfl) rfl hF (fun x2 hF => ?_)
    show gV G mX1_part 1 Q 36 [some (sr (some c0)), some (sr c1), some (si a.1)] [si x2, sr (some c0)] (k) (n) a.2
    refine ch_V (pc := 36) gU (as := [si x2]) (st := []) (ci := 0) (N := mX1_put) (k := k) (n := n) (k1 := 0) (n1 := 0) dX1_part_36 lkX1_23 caX1_put cvX1_put rfl (by decide) rfl (fun b Q1 hq => tX1_put b x2 a.2 Q1 hq) ⟨by decide, by decide⟩ (Nat.le_of_ble_eq_true rfl) rfl hF (fun x3 h4 hF => ?_)
    show gV G mX1_part 1 Q 39 [some (sr (some c0)), some (sr c1), some (si a.1)] [] (k) (n) h4
    refine v_iinc (pc := 39) (i := 2) (a.1 + (1 : Int32)) [some (sr (some c0)), some (sr c1), some (si (a.1 + (1 : Int32)))] dX1_part_39 rfl rfl rfl rfl ?_
    refine v_goto (pc := 42) 22 dX1_part_42 rfl ?_
    exact v_lle [some (sr (some c0)), some (sr c1), some (si (a.1 + (1 : Int32)))] ⟨rfl, rfl, rfl, trivial⟩ (hL (a.1 + (1 : Int32), h4) (okB_some hF)))
theorem tX1_part {G : gG} (a0 : Nat) (a1 : (Option Nat)) (h : hp) (Q : hQ) (hF : okB (fX1_part a0 a1 h) (pH gU Q)) : gS G mX1_part 1 0 0 [sr (some a0), sr a1] h Q := by
  delta fX1_part at hF
  refine gS_at [some (sr (some a0)), some (sr a1), none] pl_X1 rfl (Nat.le_of_ble_eq_true rfl) rfl ?_
  refine v_aload_n (pc := 0) (i := 1) dX1_part_0 rfl rfl ?_
  refine s_getI (pc := 1) dX1_part_1 flX1_15 rfl hF (fun x1 hF => ?_)
  refine mg (X := fun q2 => gV G mX1_part 1 Q 20 [some (sr (some a0)), some (sr a1), none] [] (0) (0) q2) hF (fun _ hj3 hF => ?_) (fun q2 hF => ?_)
  · refine v_if_le (pc := 4) 20 dX1_part_4 rfl (fun hc => ?_) (fun hc => ?_)
    · replace hF := (okB_if hF).1 hc
      exact v_lle [some (sr (some a0)), some (sr a1), none] ⟨rfl, rfl, trivial⟩ (hj3 h (okB_some hF))
    replace hF := (okB_if hF).2 hc
    refine v_aload_n (pc := 7) (i := 0) dX1_part_7 rfl rfl ?_
    refine s_getI (pc := 8) dX1_part_8 flX1_15 rfl hF (fun x4 hF => ?_)
    refine v_if_le (pc := 11) 20 dX1_part_11 rfl (fun hc => ?_) (fun hc => ?_)
    · replace hF := (okB_if hF).1 hc
      exact v_lle [some (sr (some a0)), some (sr a1), none] ⟨rfl, rfl, trivial⟩ (hj3 h (okB_some hF))
    replace hF := (okB_if hF).2 hc
    refine v_aload_n (pc := 14) (i := 0) dX1_part_14 rfl rfl ?_
    refine v_bipush (pc := 15) (v := (32 : Int32)) dX1_part_15 rfl ?_
    refine ch_V (pc := 17) gU (as := [si (32 : Int32)]) (st := []) (ci := 0) (N := mX1_put) (k := 0) (n := 0) (k1 := 0) (n1 := 0) dX1_part_17 lkX1_23 caX1_put cvX1_put rfl (by decide) rfl (fun b Q1 hq => tX1_put b (32 : Int32) h Q1 hq) ⟨by decide, by decide⟩ (Nat.le_of_ble_eq_true rfl) rfl hF (fun x5 h6 hF => ?_)
    show gV G mX1_part 1 Q 20 [some (sr (some a0)), some (sr a1), none] [] (0) (0) h6
    exact v_lle [some (sr (some a0)), some (sr a1), none] ⟨rfl, rfl, trivial⟩ (hj3 h6 (okB_some hF))
  refine v_iconst (pc := 20) (v := (0 : Int32)) dX1_part_20 rfl ?_
  refine v_istore_n (pc := 21) (i := 2) [some (sr (some a0)), some (sr a1), some (si (0 : Int32))] dX1_part_21 rfl (by decide) rfl rfl ?_
  refine mg (X := fun q7 => gV G mX1_part 1 Q 45 [none, none, none] [] (0) (0) q7) hF (fun _ hj8 hF => v_lle [some (sr (some a0)), some (sr a1), some (si (0 : Int32))] ⟨rfl, rfl, rfl, trivial⟩ (lX1_part_22 a0 a1 hj8 FU ((0 : Int32), q2) hF)) (fun q7 hF => ?_)
  exact v_ret (pc := 45) dX1_part_45 rfl (okr hF fun q => q)
/-! String.isEmpty -/
theorem tJ0_isEmpty_aae02 {G : gG} (a0 : Nat) (h : hp) (Q : hQ) (hF : okB (fJ0_isEmpty_aae02 a0) (pP gI Q h)) : gS G mJ0_isEmpty_aae02 0 0 0 [sr (some (ga G a0))] h Q := by
  delta fJ0_isEmpty_aae02 at hF
  refine gS_at [some (sr (some (ga G a0)))] pl_J0 rfl (Nat.le_of_ble_eq_true rfl) rfl ?_
  refine v_aload_n (pc := 0) (i := 0) dJ0_isEmpty_aae02_0 rfl rfl ?_
  refine s_strV (pc := 1) dJ0_isEmpty_aae02_1 flJ0_9 hF (fun hF => ?_)
  refine s_strL (pc := 4) dJ0_isEmpty_aae02_4 hF (fun hF => ?_)
  refine v_if_ne (pc := 5) 12 dJ0_isEmpty_aae02_5 rfl (fun hc => ?_) (fun hc => ?_)
  · replace hF := (okB_if hF).2 hc
    refine v_iconst (pc := 12) (v := (0 : Int32)) dJ0_isEmpty_aae02_12 rfl ?_
    exact v_iret (pc := 13) dJ0_isEmpty_aae02_13 rfl rfl (okr hF fun q => q)
  replace hF := (okB_if hF).1 hc
  refine v_iconst (pc := 8) (v := (1 : Int32)) dJ0_isEmpty_aae02_8 rfl ?_
  refine v_goto (pc := 9) 13 dJ0_isEmpty_aae02_9 rfl ?_
  exact v_iret (pc := 13) dJ0_isEmpty_aae02_13 rfl rfl (okr hF fun q => q)
/-! String.coder -/
theorem tJ0_coder_7d493 {G : gG} (a0 : Nat) (h : hp) (Q : hQ) (hF : okB (fJ0_coder_7d493 a0) (pP gI Q h)) : gS G mJ0_coder_7d493 0 0 0 [sr (some (ga G a0))] h Q := by
  delta fJ0_coder_7d493 at hF
  refine gS_at [some (sr (some (ga G a0)))] pl_J0 rfl (Nat.le_of_ble_eq_true rfl) rfl ?_
  refine v_compact (pc := 0) dJ0_coder_7d493_0 flJ0_38 ?_
  refine v_if_eq (pc := 3) 13 dJ0_coder_7d493_3 rfl (fun hc => ?_) (fun hc => ?_)
  · replace hF := (okB_if hF).1 hc
    refine v_iconst (pc := 13) (v := (1 : Int32)) dJ0_coder_7d493_13 rfl ?_
    exact v_iret (pc := 14) dJ0_coder_7d493_14 rfl rfl (okr hF fun q => q)
  replace hF := (okB_if hF).2 hc
  refine v_aload_n (pc := 6) (i := 0) dJ0_coder_7d493_6 rfl rfl ?_
  refine s_strC (pc := 7) dJ0_coder_7d493_7 flJ0_15 hF (fun hF => ?_)
  refine v_goto (pc := 10) 14 dJ0_coder_7d493_10 rfl ?_
  exact v_iret (pc := 14) dJ0_coder_7d493_14 rfl rfl (okr hF fun q => q)
/-! String.length -/
theorem tJ0_length_8abf5 {G : gG} (a0 : Nat) (h : hp) (Q : hQ) (hF : okB (fJ0_length_8abf5 a0) (pP gI Q h)) : gS G mJ0_length_8abf5 1 0 0 [sr (some (ga G a0))] h Q := by
  delta fJ0_length_8abf5 at hF
  refine gS_at [some (sr (some (ga G a0)))] pl_J0 rfl (Nat.le_of_ble_eq_true rfl) rfl ?_
  refine v_aload_n (pc := 0) (i := 0) dJ0_length_8abf5_0 rfl rfl ?_
  refine s_strV (pc := 1) dJ0_length_8abf5_1 flJ0_9 hF (fun hF => ?_)
  refine s_strL (pc := 4) dJ0_length_8abf5_4 hF (fun hF => ?_)
  refine v_aload_n (pc := 5) (i := 0) dJ0_length_8abf5_5 rfl rfl ?_
  refine cp_T (pc := 6) gI (as := []) (st := [si (nI (strL a0))]) (i := a0) (N := mJ0_coder_7d493) (k := 0) (n := 0) (k1 := 0) (n1 := 0) dJ0_length_8abf5_6 lkJ0_335 caJ0_coder_7d493 cvJ0_coder_7d493 rfl rfl (fun Q1 hq => tJ0_coder_7d493 a0 h Q1 hq) ⟨by decide, by decide⟩ (Nat.le_of_ble_eq_true rfl) rfl hF (fun x1 hF => ?_)
  show gV G mJ0_length_8abf5 1 Q 9 [some (sr (some (ga G a0)))] [si x1, si (nI (strL a0))] (0) (0) h
  refine v_ishr (pc := 9) dJ0_length_8abf5_9 ?_
  exact v_iret (pc := 10) dJ0_length_8abf5_10 rfl rfl (okr hF fun q => q)
/-! String.isLatin1 -/
theorem tJ0_isLatin1_aae02 {G : gG} (a0 : Nat) (h : hp) (Q : hQ) (hF : okB (fJ0_isLatin1_aae02 a0) (pP gI Q h)) : gS G mJ0_isLatin1_aae02 0 0 0 [sr (some (ga G a0))] h Q := by
  delta fJ0_isLatin1_aae02 at hF
  refine gS_at [some (sr (some (ga G a0)))] pl_J0 rfl (Nat.le_of_ble_eq_true rfl) rfl ?_
  refine v_compact (pc := 0) dJ0_isLatin1_aae02_0 flJ0_38 ?_
  refine v_if_eq (pc := 3) 17 dJ0_isLatin1_aae02_3 rfl (fun hc => ?_) (fun hc => ?_)
  · replace hF := (okB_if hF).1 hc
    refine v_iconst (pc := 17) (v := (0 : Int32)) dJ0_isLatin1_aae02_17 rfl ?_
    exact v_iret (pc := 18) dJ0_isLatin1_aae02_18 rfl rfl (okr hF fun q => q)
  replace hF := (okB_if hF).2 hc
  refine v_aload_n (pc := 6) (i := 0) dJ0_isLatin1_aae02_6 rfl rfl ?_
  refine s_strC (pc := 7) dJ0_isLatin1_aae02_7 flJ0_15 hF (fun hF => ?_)
  refine v_if_ne (pc := 10) 17 dJ0_isLatin1_aae02_10 rfl (fun hc => ?_) (fun hc => ?_)
  · replace hF := (okB_if hF).2 hc
    refine v_iconst (pc := 17) (v := (0 : Int32)) dJ0_isLatin1_aae02_17 rfl ?_
    exact v_iret (pc := 18) dJ0_isLatin1_aae02_18 rfl rfl (okr hF fun q => q)
  replace hF := (okB_if hF).1 hc
  refine v_iconst (pc := 13) (v := (1 : Int32)) dJ0_isLatin1_aae02_13 rfl ?_
  refine v_goto (pc := 14) 18 dJ0_isLatin1_aae02_14 rfl ?_
  exact v_iret (pc := 18) dJ0_isLatin1_aae02_18 rfl rfl (okr hF fun q => q)
/-! jdk/internal/util/Preconditions.checkIndex -/
theorem tJ3_checkIndex_8e157 {G : gG} (a0 : Int32) (a1 : Int32) (a2 : Option Nat) (h : hp) (Q : hQ) (hF : okB (fJ3_checkIndex_8e157 a0 a1) (pP gI Q h)) : gS G mJ3_checkIndex_8e157 0 0 0 [si a0, si a1, sr a2] h Q := by
  delta fJ3_checkIndex_8e157 at hF
  refine gS_at [some (si a0), some (si a1), some (sr a2)] pl_J3 rfl (Nat.le_of_ble_eq_true rfl) rfl ?_
  refine v_iload_n (pc := 0) (i := 0) dJ3_checkIndex_8e157_0 rfl rfl ?_
  refine mgR (X := fun q1 => gV G mJ3_checkIndex_8e157 0 Q 9 [some (si a0), some (si a1), some (sr a2)] [] (0) (0) h) hF (fun _ hj2 hr2 hF => ?_) (fun q1 hF => ?_)
  · refine v_if_lt (pc := 1) 9 dJ3_checkIndex_8e157_1 rfl (fun hc => ?_) (fun hc => ?_)
    · replace hF := (okB_if hF).1 hc
      exact v_lle [some (si a0), some (si a1), some (sr a2)] ⟨rfl, rfl, rfl, trivial⟩ (hj2 () (okB_some hF))
    replace hF := (okB_if hF).2 hc
    refine v_iload_n (pc := 4) (i := 0) dJ3_checkIndex_8e157_4 rfl rfl ?_
    refine v_iload_n (pc := 5) (i := 1) dJ3_checkIndex_8e157_5 rfl rfl ?_
    refine v_icmp_lt (pc := 6) 16 dJ3_checkIndex_8e157_6 rfl (fun hc => ?_) (fun hc => ?_)
    · replace hF := (okB_if hF).1 hc
      refine v_iload_n (pc := 16) (i := 0) dJ3_checkIndex_8e157_16 rfl rfl ?_
      exact v_iret (pc := 17) dJ3_checkIndex_8e157_17 rfl rfl (hr2 _ (okB_some hF))
    replace hF := (okB_if hF).2 hc
    exact v_lle [some (si a0), some (si a1), some (sr a2)] ⟨rfl, rfl, rfl, trivial⟩ (hj2 () (okB_some hF))
  refine v_aload_n (pc := 9) (i := 2) dJ3_checkIndex_8e157_9 rfl rfl ?_
  refine v_iload_n (pc := 10) (i := 0) dJ3_checkIndex_8e157_10 rfl rfl ?_
  refine v_iload_n (pc := 11) (i := 1) dJ3_checkIndex_8e157_11 rfl rfl ?_
  exact (okB_none hF).elim
/-! String.checkIndex -/
theorem tJ0_checkIndex_df160 {G : gG} (a0 : Int32) (a1 : Int32) (h : hp) (Q : hQ) (hF : okB (fJ0_checkIndex_df160 a0 a1) (pP gU Q h)) : gS G mJ0_checkIndex_df160 1 0 0 [si a0, si a1] h Q := by
  delta fJ0_checkIndex_df160 at hF
  refine gS_at [some (si a0), some (si a1)] pl_J0 rfl (Nat.le_of_ble_eq_true rfl) rfl ?_
  refine v_iload_n (pc := 0) (i := 0) dJ0_checkIndex_df160_0 rfl rfl ?_
  refine v_iload_n (pc := 1) (i := 1) dJ0_checkIndex_df160_1 rfl rfl ?_
  refine v_fmt (pc := 2) dJ0_checkIndex_df160_2 flJ0_1053 (fun r1 => ?_)
  refine cp_S (pc := 5) gI (as := [si a0, si a1, sr r1]) (st := []) (N := mJ3_checkIndex_8e157) (k := 0) (n := 0) (k1 := 0) (n1 := 0) dJ0_checkIndex_df160_5 lkJ0_1059 caJ3_checkIndex_8e157 csJ3_checkIndex_8e157 rfl (fun Q1 hq => tJ3_checkIndex_8e157 a0 a1 r1 h Q1 hq) ⟨by decide, by decide⟩ (Nat.le_of_ble_eq_true rfl) rfl hF (fun x2 hF => ?_)
  show gV G mJ0_checkIndex_df160 1 Q 8 [some (si a0), some (si a1)] [si x2] (0) (0) h
  refine v_pop (pc := 8) dJ0_checkIndex_df160_8 rfl ?_
  exact v_ret (pc := 9) dJ0_checkIndex_df160_9 rfl (okr hF fun q => q)
/-! StringLatin1.charAt -/
theorem tJ1_charAt_3b067 {G : gG} (a0 : Nat) (a1 : Int32) (h : hp) (Q : hQ) (hF : okB (fJ1_charAt_3b067 a0 a1) (pP gI Q h)) : gS G mJ1_charAt_3b067 2 0 0 [sr (some (gv G a0)), si a1] h Q := by
  delta fJ1_charAt_3b067 at hF
  refine gS_at [some (sr (some (gv G a0))), some (si a1)] pl_J1 rfl (Nat.le_of_ble_eq_true rfl) rfl ?_
  refine v_iload_n (pc := 0) (i := 1) dJ1_charAt_3b067_0 rfl rfl ?_
  refine v_aload_n (pc := 1) (i := 0) dJ1_charAt_3b067_1 rfl rfl ?_
  refine s_strL (pc := 2) dJ1_charAt_3b067_2 hF (fun hF => ?_)
  refine cp_S (pc := 3) gU (as := [si a1, si (nI (strL a0))]) (st := []) (N := mJ0_checkIndex_df160) (k := 0) (n := 0) (k1 := 0) (n1 := 0) dJ1_charAt_3b067_3 lkJ1_9 caJ0_checkIndex_df160 csJ0_checkIndex_df160 rfl (fun Q1 hq => tJ0_checkIndex_df160 a1 (nI (strL a0)) h Q1 hq) ⟨by decide, by decide⟩ (Nat.le_of_ble_eq_true rfl) rfl hF (fun x1 hF => ?_)
  show gV G mJ1_charAt_3b067 2 Q 6 [some (sr (some (gv G a0))), some (si a1)] [] (0) (0) h
  refine v_aload_n (pc := 6) (i := 0) dJ1_charAt_3b067_6 rfl rfl ?_
  refine v_iload_n (pc := 7) (i := 1) dJ1_charAt_3b067_7 rfl rfl ?_
  refine s_strA (pc := 8) dJ1_charAt_3b067_8 hF (fun x2 hF => ?_)
  refine v_sipush (pc := 9) (v := (255 : Int32)) dJ1_charAt_3b067_9 rfl ?_
  refine v_iand (pc := 12) dJ1_charAt_3b067_12 ?_
  refine v_i2c (pc := 13) (v := ((x2 &&& (255 : Int32)).toUInt32 % 65536).toInt32) dJ1_charAt_3b067_13 rfl ?_
  exact s_chret (pc := 14) dJ1_charAt_3b067_14 rfl hF (fun hF => (okr hF fun q => q))
/-! String.charAt -/
theorem tJ0_charAt_5068e {G : gG} (a0 : Nat) (a1 : Int32) (h : hp) (Q : hQ) (hF : okB (fJ0_charAt_5068e a0 a1) (pP gI Q h)) : gS G mJ0_charAt_5068e 3 0 0 [sr (some (ga G a0)), si a1] h Q := by
  delta fJ0_charAt_5068e at hF
  refine gS_at [some (sr (some (ga G a0))), some (si a1)] pl_J0 rfl (Nat.le_of_ble_eq_true rfl) rfl ?_
  refine v_aload_n (pc := 0) (i := 0) dJ0_charAt_5068e_0 rfl rfl ?_
  refine cp_T (pc := 1) gI (as := []) (st := []) (i := a0) (N := mJ0_isLatin1_aae02) (k := 0) (n := 0) (k1 := 0) (n1 := 0) dJ0_charAt_5068e_1 lkJ0_492 caJ0_isLatin1_aae02 cvJ0_isLatin1_aae02 rfl rfl (fun Q1 hq => tJ0_isLatin1_aae02 a0 h Q1 hq) ⟨by decide, by decide⟩ (Nat.le_of_ble_eq_true rfl) rfl hF (fun x1 hF => ?_)
  show gV G mJ0_charAt_5068e 3 Q 4 [some (sr (some (ga G a0))), some (si a1)] [si x1] (0) (0) h
  refine v_if_eq (pc := 4) 16 dJ0_charAt_5068e_4 rfl (fun hc => ?_) (fun hc => ?_)
  · replace hF := (okB_if hF).1 hc
    refine v_aload_n (pc := 16) (i := 0) dJ0_charAt_5068e_16 rfl rfl ?_
    refine s_strV (pc := 17) dJ0_charAt_5068e_17 flJ0_9 hF (fun hF => ?_)
    refine v_iload_n (pc := 20) (i := 1) dJ0_charAt_5068e_20 rfl rfl ?_
    exact (okB_none hF).elim
  replace hF := (okB_if hF).2 hc
  refine v_aload_n (pc := 7) (i := 0) dJ0_charAt_5068e_7 rfl rfl ?_
  refine s_strV (pc := 8) dJ0_charAt_5068e_8 flJ0_9 hF (fun hF => ?_)
  refine v_iload_n (pc := 11) (i := 1) dJ0_charAt_5068e_11 rfl rfl ?_
  refine cp_S (pc := 12) gI (as := [sr (some (gv G a0)), si a1]) (st := []) (N := mJ1_charAt_3b067) (k := 0) (n := 0) (k1 := 0) (n1 := 0) dJ0_charAt_5068e_12 lkJ0_495 caJ1_charAt_3b067 csJ1_charAt_3b067 rfl (fun Q1 hq => tJ1_charAt_3b067 a0 a1 h Q1 hq) ⟨by decide, by decide⟩ (Nat.le_of_ble_eq_true rfl) rfl hF (fun x2 hF => ?_)
  show gV G mJ0_charAt_5068e 3 Q 15 [some (sr (some (ga G a0))), some (si a1)] [si x2] (0) (0) h
  exact s_chret (pc := 15) dJ0_charAt_5068e_15 rfl hF (fun hF => (okr hF fun q => q))
/-! BrailleDesk$Codes.part -/
theorem lX1_part__22 {G : gG} {Q : hQ} {P : hp → Prop} {k n : Nat} (c0 : Nat) (c1 : Nat) (hJ : ∀ q : hp, P q → gV G mX1_part_ 4 Q 45 [none, none, none] [] (k) (n) q) : ∀ (fu : Nat) (a : (Int32 × hp)), okB (itr (fX1_part__B22 c0 c1) fu a) P → gV G mX1_part_ 4 Q 22 [some (sr (some c0)), some (sr (some (ga G c1))), some (si a.1)] [] (k) (n) a.2 :=
  lpg (X := fun (a : (Int32 × hp)) => gV G mX1_part_ 4 Q 22 [some (sr (some c0)), some (sr (some (ga G c1))), some (si a.1)] [] (k) (n) a.2) (fun a P2 hL hE hF => by
    delta fX1_part__B22 at hF
    refine v_iload_n (pc := 22) (i := 2) dX1_part__22 rfl rfl ?_
    refine v_aload_n (pc := 23) (i := 1) dX1_part__23 rfl rfl ?_
    refine cp_T (pc := 24) gI (as := []) (st := [si a.1]) (i := c1) (N := mJ0_length_8abf5) (k := k) (n := n) (k1 := 0) (n1 := 0) dX1_part__24 lkX1_33 caJ0_length_8abf5 cvJ0_length_8abf5 rfl rfl (fun Q1 hq => tJ0_length_8abf5 c1 a.2 Q1 hq) ⟨by decide, by decide⟩ (Nat.le_of_ble_eq_true rfl) rfl hF (fun x1 hF => ?_)
    show gV G mX1_part_ 4 Q 27 [some (sr (some c0)), some (sr (some (ga G c1))), some (si a.1)] [si x1, si a.1] (k) (n) a.2
    refine v_icmp_ge (pc := 27) 45 dX1_part__27 rfl (fun hc => ?_) (fun hc => ?_)
    · replace hF := (okB_if hF).1 hc
      exact v_lle [none, none, none] trivial (hJ a.2 (hE _ (okB_some hF)))
    replace hF := (okB_if hF).2 hc
    refine v_aload_n (pc := 30) (i := 0) dX1_part__30 rfl rfl ?_
    refine v_aload_n (pc := 31) (i := 1) dX1_part__31 rfl rfl ?_
    refine v_iload_n (pc := 32) (i := 2) dX1_part__32 rfl rfl ?_
    refine cp_T (pc := 33) gI (as := [si a.1]) (st := [sr (some c0)]) (i := c1) (N := mJ0_charAt_5068e) (k := k) (n := n) (k1 := 0) (n1 := 0) dX1_part__33 lkX1_37 caJ0_charAt_5068e cvJ0_charAt_5068e rfl rfl (fun Q1 hq => tJ0_charAt_5068e c1 a.1 a.2 Q1 hq) ⟨by decide, by decide⟩ (Nat.le_of_ble_eq_true rfl) rfl hF (fun x2 hF => ?_)
    show gV G mX1_part_ 4 Q 36 [some (sr (some c0)), some (sr (some (ga G c1))), some (si a.1)] [si x2, sr (some c0)] (k) (n) a.2
    refine ch_V (pc := 36) gU (as := [si x2]) (st := []) (ci := 0) (N := mX1_put) (k := k) (n := n) (k1 := 0) (n1 := 0) dX1_part__36 lkX1_23 caX1_put cvX1_put rfl (by decide) rfl (fun b Q1 hq => tX1_put b x2 a.2 Q1 hq) ⟨by decide, by decide⟩ (Nat.le_of_ble_eq_true rfl) rfl hF (fun x3 h4 hF => ?_)
    show gV G mX1_part_ 4 Q 39 [some (sr (some c0)), some (sr (some (ga G c1))), some (si a.1)] [] (k) (n) h4
    refine v_iinc (pc := 39) (i := 2) (a.1 + (1 : Int32)) [some (sr (some c0)), some (sr (some (ga G c1))), some (si (a.1 + (1 : Int32)))] dX1_part__39 rfl rfl rfl rfl ?_
    refine v_goto (pc := 42) 22 dX1_part__42 rfl ?_
    exact v_lle [some (sr (some c0)), some (sr (some (ga G c1))), some (si (a.1 + (1 : Int32)))] ⟨rfl, rfl, rfl, trivial⟩ (hL (a.1 + (1 : Int32), h4) (okB_some hF)))
theorem tX1_part_ {G : gG} (a0 : Nat) (a1 : Nat) (h : hp) (Q : hQ) (hF : okB (fX1_part_ a0 a1 h) (pH gU Q)) : gS G mX1_part_ 4 0 0 [sr (some a0), sr (some (ga G a1))] h Q := by
  delta fX1_part_ at hF
  refine gS_at [some (sr (some a0)), some (sr (some (ga G a1))), none] pl_X1 rfl (Nat.le_of_ble_eq_true rfl) rfl ?_
  refine v_aload_n (pc := 0) (i := 1) dX1_part__0 rfl rfl ?_
  refine cp_T (pc := 1) gI (as := []) (st := []) (i := a1) (N := mJ0_isEmpty_aae02) (k := 0) (n := 0) (k1 := 0) (n1 := 0) dX1_part__1 lkX1_27 caJ0_isEmpty_aae02 cvJ0_isEmpty_aae02 rfl rfl (fun Q1 hq => tJ0_isEmpty_aae02 a1 h Q1 hq) ⟨by decide, by decide⟩ (Nat.le_of_ble_eq_true rfl) rfl hF (fun x1 hF => ?_)
  show gV G mX1_part_ 4 Q 4 [some (sr (some a0)), some (sr (some (ga G a1))), none] [si x1] (0) (0) h
  refine mg (X := fun q2 => gV G mX1_part_ 4 Q 20 [some (sr (some a0)), some (sr (some (ga G a1))), none] [] (0) (0) q2) hF (fun _ hj3 hF => ?_) (fun q2 hF => ?_)
  · refine v_if_ne (pc := 4) 20 dX1_part__4 rfl (fun hc => ?_) (fun hc => ?_)
    · replace hF := (okB_if hF).2 hc
      exact v_lle [some (sr (some a0)), some (sr (some (ga G a1))), none] ⟨rfl, rfl, trivial⟩ (hj3 h (okB_some hF))
    replace hF := (okB_if hF).1 hc
    refine v_aload_n (pc := 7) (i := 0) dX1_part__7 rfl rfl ?_
    refine s_getI (pc := 8) dX1_part__8 flX1_15 rfl hF (fun x4 hF => ?_)
    refine v_if_le (pc := 11) 20 dX1_part__11 rfl (fun hc => ?_) (fun hc => ?_)
    · replace hF := (okB_if hF).1 hc
      exact v_lle [some (sr (some a0)), some (sr (some (ga G a1))), none] ⟨rfl, rfl, trivial⟩ (hj3 h (okB_some hF))
    replace hF := (okB_if hF).2 hc
    refine v_aload_n (pc := 14) (i := 0) dX1_part__14 rfl rfl ?_
    refine v_bipush (pc := 15) (v := (32 : Int32)) dX1_part__15 rfl ?_
    refine ch_V (pc := 17) gU (as := [si (32 : Int32)]) (st := []) (ci := 0) (N := mX1_put) (k := 0) (n := 0) (k1 := 0) (n1 := 0) dX1_part__17 lkX1_23 caX1_put cvX1_put rfl (by decide) rfl (fun b Q1 hq => tX1_put b (32 : Int32) h Q1 hq) ⟨by decide, by decide⟩ (Nat.le_of_ble_eq_true rfl) rfl hF (fun x5 h6 hF => ?_)
    show gV G mX1_part_ 4 Q 20 [some (sr (some a0)), some (sr (some (ga G a1))), none] [] (0) (0) h6
    exact v_lle [some (sr (some a0)), some (sr (some (ga G a1))), none] ⟨rfl, rfl, trivial⟩ (hj3 h6 (okB_some hF))
  refine v_iconst (pc := 20) (v := (0 : Int32)) dX1_part__20 rfl ?_
  refine v_istore_n (pc := 21) (i := 2) [some (sr (some a0)), some (sr (some (ga G a1))), some (si (0 : Int32))] dX1_part__21 rfl (by decide) rfl rfl ?_
  refine mg (X := fun q7 => gV G mX1_part_ 4 Q 45 [none, none, none] [] (0) (0) q7) hF (fun _ hj8 hF => v_lle [some (sr (some a0)), some (sr (some (ga G a1))), some (si (0 : Int32))] ⟨rfl, rfl, rfl, trivial⟩ (lX1_part__22 a0 a1 hj8 FU ((0 : Int32), q2) hF)) (fun q7 hF => ?_)
  exact v_ret (pc := 45) dX1_part__45 rfl (okr hF fun q => q)
