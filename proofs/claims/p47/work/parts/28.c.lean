/-! ===== methods: their functions and rows ===== -/
theorem dX7_nextForFocus_0 : decode cX7_nextForFocus 0 = .ok (.aconst_null, 1) := by decide +kernel
theorem dX7_nextForFocus_1 : decode cX7_nextForFocus 1 = .ok (.astore_n 2, 1) := by decide +kernel
theorem dX7_nextForFocus_2 : decode cX7_nextForFocus 2 = .ok (.aload_n 0, 1) := by decide +kernel
theorem dX7_nextForFocus_3 : decode cX7_nextForFocus 3 = .ok (.aload_n 1, 1) := by decide +kernel
theorem dX7_nextForFocus_4 : decode cX7_nextForFocus 4 = .ok (.invokevirtual 84, 3) := by decide +kernel
theorem dX7_nextForFocus_7 : decode cX7_nextForFocus 7 = .ok (.istore_n 3, 1) := by decide +kernel
theorem dX7_nextForFocus_8 : decode cX7_nextForFocus 8 = .ok (.iconst 0, 1) := by decide +kernel
theorem dX7_nextForFocus_9 : decode cX7_nextForFocus 9 = .ok (.istore 4, 2) := by decide +kernel
theorem dX7_nextForFocus_11 : decode cX7_nextForFocus 11 = .ok (.iload 4, 2) := by decide +kernel
theorem dX7_nextForFocus_13 : decode cX7_nextForFocus 13 = .ok (.aload_n 0, 1) := by decide +kernel
theorem dX7_nextForFocus_14 : decode cX7_nextForFocus 14 = .ok (.getfield 34, 3) := by decide +kernel
theorem dX7_nextForFocus_17 : decode cX7_nextForFocus 17 = .ok (.if_icmp .ge 50, 3) := by decide +kernel
theorem dX7_nextForFocus_20 : decode cX7_nextForFocus 20 = .ok (.aload_n 0, 1) := by decide +kernel
theorem dX7_nextForFocus_21 : decode cX7_nextForFocus 21 = .ok (.iload 4, 2) := by decide +kernel
theorem dX7_nextForFocus_23 : decode cX7_nextForFocus 23 = .ok (.invokevirtual 37, 3) := by decide +kernel
theorem dX7_nextForFocus_26 : decode cX7_nextForFocus 26 = .ok (.astore 5, 2) := by decide +kernel
theorem dX7_nextForFocus_28 : decode cX7_nextForFocus 28 = .ok (.aload 5, 2) := by decide +kernel
theorem dX7_nextForFocus_30 : decode cX7_nextForFocus 30 = .ok (.ifnull 31, 3) := by decide +kernel
theorem dX7_nextForFocus_33 : decode cX7_nextForFocus 33 = .ok (.aload 5, 2) := by decide +kernel
theorem dX7_nextForFocus_35 : decode cX7_nextForFocus 35 = .ok (.invokevirtual 91, 3) := by decide +kernel
theorem dX7_nextForFocus_38 : decode cX7_nextForFocus 38 = .ok (.ifCond .eq 23, 3) := by decide +kernel
theorem dX7_nextForFocus_41 : decode cX7_nextForFocus 41 = .ok (.iload 4, 2) := by decide +kernel
theorem dX7_nextForFocus_43 : decode cX7_nextForFocus 43 = .ok (.iload_n 3, 1) := by decide +kernel
theorem dX7_nextForFocus_44 : decode cX7_nextForFocus 44 = .ok (.if_icmp .le 6, 3) := by decide +kernel
theorem dX7_nextForFocus_47 : decode cX7_nextForFocus 47 = .ok (.aload 5, 2) := by decide +kernel
theorem dX7_nextForFocus_49 : decode cX7_nextForFocus 49 = .ok (.areturn, 1) := by decide +kernel
theorem dX7_nextForFocus_50 : decode cX7_nextForFocus 50 = .ok (.aload_n 2, 1) := by decide +kernel
theorem dX7_nextForFocus_51 : decode cX7_nextForFocus 51 = .ok (.ifnonnull 8, 3) := by decide +kernel
theorem dX7_nextForFocus_54 : decode cX7_nextForFocus 54 = .ok (.aload 5, 2) := by decide +kernel
theorem dX7_nextForFocus_56 : decode cX7_nextForFocus 56 = .ok (.goto 4, 3) := by decide +kernel
theorem dX7_nextForFocus_59 : decode cX7_nextForFocus 59 = .ok (.aload_n 2, 1) := by decide +kernel
theorem dX7_nextForFocus_60 : decode cX7_nextForFocus 60 = .ok (.astore_n 2, 1) := by decide +kernel
theorem dX7_nextForFocus_61 : decode cX7_nextForFocus 61 = .ok (.iinc 4 1, 3) := by decide +kernel
theorem dX7_nextForFocus_64 : decode cX7_nextForFocus 64 = .ok (.goto (-53), 3) := by decide +kernel
theorem dX7_nextForFocus_67 : decode cX7_nextForFocus 67 = .ok (.aload_n 2, 1) := by decide +kernel
theorem dX7_nextForFocus_68 : decode cX7_nextForFocus 68 = .ok (.areturn, 1) := by decide +kernel
theorem dX8_init_0 : decode cX8_init 0 = .ok (.aload_n 0, 1) := by decide +kernel
theorem dX8_init_1 : decode cX8_init 1 = .ok (.invokespecial 3, 3) := by decide +kernel
theorem dX8_init_4 : decode cX8_init 4 = .ok (.return_, 1) := by decide +kernel
theorem dX8_begin_0 : decode cX8_begin 0 = .ok (.aload_n 0, 1) := by decide +kernel
theorem dX8_begin_1 : decode cX8_begin 1 = .ok (.iconst 1, 1) := by decide +kernel
theorem dX8_begin_2 : decode cX8_begin 2 = .ok (.putfield 9, 3) := by decide +kernel
theorem dX8_begin_5 : decode cX8_begin 5 = .ok (.aload_n 0, 1) := by decide +kernel
theorem dX8_begin_6 : decode cX8_begin 6 = .ok (.iconst 0, 1) := by decide +kernel
theorem dX8_begin_7 : decode cX8_begin 7 = .ok (.putfield 15, 3) := by decide +kernel
theorem dX8_begin_10 : decode cX8_begin 10 = .ok (.aload_n 0, 1) := by decide +kernel
theorem dX8_begin_11 : decode cX8_begin 11 = .ok (.iconst 0, 1) := by decide +kernel
theorem dX8_begin_12 : decode cX8_begin 12 = .ok (.putfield 18, 3) := by decide +kernel
theorem dX8_begin_15 : decode cX8_begin 15 = .ok (.return_, 1) := by decide +kernel
theorem dX8_end_0 : decode cX8_end 0 = .ok (.aload_n 0, 1) := by decide +kernel
theorem dX8_end_1 : decode cX8_end 1 = .ok (.iconst 0, 1) := by decide +kernel
theorem dX8_end_2 : decode cX8_end 2 = .ok (.putfield 9, 3) := by decide +kernel
theorem dX8_end_5 : decode cX8_end 5 = .ok (.return_, 1) := by decide +kernel
theorem dX8_takesSign_0 : decode cX8_takesSign 0 = .ok (.iload_n 1, 1) := by decide +kernel
theorem dX8_takesSign_1 : decode cX8_takesSign 1 = .ok (.lookupswitch 56 #[(32, 35), (48, 49), (60, 42)], 35) := by decide +kernel
theorem dX8_takesSign_36 : decode cX8_takesSign 36 = .ok (.aload_n 0, 1) := by decide +kernel
theorem dX8_takesSign_37 : decode cX8_takesSign 37 = .ok (.iconst 1, 1) := by decide +kernel
theorem dX8_takesSign_38 : decode cX8_takesSign 38 = .ok (.putfield 15, 3) := by decide +kernel
theorem dX8_takesSign_41 : decode cX8_takesSign 41 = .ok (.iconst 1, 1) := by decide +kernel
theorem dX8_takesSign_42 : decode cX8_takesSign 42 = .ok (.ireturn, 1) := by decide +kernel
theorem dX8_takesSign_43 : decode cX8_takesSign 43 = .ok (.aload_n 0, 1) := by decide +kernel
theorem dX8_takesSign_44 : decode cX8_takesSign 44 = .ok (.iconst 1, 1) := by decide +kernel
theorem dX8_takesSign_45 : decode cX8_takesSign 45 = .ok (.putfield 18, 3) := by decide +kernel
theorem dX8_takesSign_48 : decode cX8_takesSign 48 = .ok (.iconst 1, 1) := by decide +kernel
theorem dX8_takesSign_49 : decode cX8_takesSign 49 = .ok (.ireturn, 1) := by decide +kernel
theorem dX8_takesSign_50 : decode cX8_takesSign 50 = .ok (.aload_n 0, 1) := by decide +kernel
theorem dX8_takesSign_51 : decode cX8_takesSign 51 = .ok (.iconst 0, 1) := by decide +kernel
theorem dX8_takesSign_52 : decode cX8_takesSign 52 = .ok (.putfield 18, 3) := by decide +kernel
theorem dX8_takesSign_55 : decode cX8_takesSign 55 = .ok (.iconst 1, 1) := by decide +kernel
theorem dX8_takesSign_56 : decode cX8_takesSign 56 = .ok (.ireturn, 1) := by decide +kernel
theorem dX8_takesSign_57 : decode cX8_takesSign 57 = .ok (.iconst 0, 1) := by decide +kernel
theorem dX8_takesSign_58 : decode cX8_takesSign 58 = .ok (.ireturn, 1) := by decide +kernel
theorem dX8_characterOf_0 : decode cX8_characterOf 0 = .ok (.iload_n 1, 1) := by decide +kernel
theorem dX8_characterOf_1 : decode cX8_characterOf 1 = .ok (.sipush 256, 3) := by decide +kernel
theorem dX8_characterOf_4 : decode cX8_characterOf 4 = .ok (.if_icmp .ne 6, 3) := by decide +kernel
theorem dX8_characterOf_7 : decode cX8_characterOf 7 = .ok (.bipush 32, 2) := by decide +kernel
theorem dX8_characterOf_9 : decode cX8_characterOf 9 = .ok (.ireturn, 1) := by decide +kernel
theorem dX8_characterOf_10 : decode cX8_characterOf 10 = .ok (.iload_n 1, 1) := by decide +kernel
theorem dX8_characterOf_11 : decode cX8_characterOf 11 = .ok (.invokestatic 21, 3) := by decide +kernel
theorem dX8_characterOf_14 : decode cX8_characterOf 14 = .ok (.istore_n 2, 1) := by decide +kernel
theorem dX8_characterOf_15 : decode cX8_characterOf 15 = .ok (.iload_n 2, 1) := by decide +kernel
theorem dX8_characterOf_16 : decode cX8_characterOf 16 = .ok (.iconst (-1), 1) := by decide +kernel
theorem dX8_characterOf_17 : decode cX8_characterOf 17 = .ok (.if_icmp .ne 8, 3) := by decide +kernel
theorem dX8_characterOf_20 : decode cX8_characterOf 20 = .ok (.iload_n 1, 1) := by decide +kernel
theorem dX8_characterOf_21 : decode cX8_characterOf 21 = .ok (.invokestatic 27, 3) := by decide +kernel
theorem dX8_characterOf_24 : decode cX8_characterOf 24 = .ok (.ireturn, 1) := by decide +kernel
theorem dX8_characterOf_25 : decode cX8_characterOf 25 = .ok (.aload_n 0, 1) := by decide +kernel
theorem dX8_characterOf_26 : decode cX8_characterOf 26 = .ok (.getfield 15, 3) := by decide +kernel
theorem dX8_characterOf_29 : decode cX8_characterOf 29 = .ok (.ifCond .eq 8, 3) := by decide +kernel
theorem dX8_characterOf_32 : decode cX8_characterOf 32 = .ok (.bipush 65, 2) := by decide +kernel
theorem dX8_characterOf_34 : decode cX8_characterOf 34 = .ok (.iload_n 2, 1) := by decide +kernel
theorem dX8_characterOf_35 : decode cX8_characterOf 35 = .ok (.iadd, 1) := by decide +kernel
theorem dX8_characterOf_36 : decode cX8_characterOf 36 = .ok (.ireturn, 1) := by decide +kernel
theorem dX8_characterOf_37 : decode cX8_characterOf 37 = .ok (.aload_n 0, 1) := by decide +kernel
theorem dX8_characterOf_38 : decode cX8_characterOf 38 = .ok (.getfield 18, 3) := by decide +kernel
theorem dX8_characterOf_41 : decode cX8_characterOf 41 = .ok (.ifCond .eq 25, 3) := by decide +kernel
theorem dX8_characterOf_44 : decode cX8_characterOf 44 = .ok (.iload_n 2, 1) := by decide +kernel
theorem dX8_characterOf_45 : decode cX8_characterOf 45 = .ok (.bipush 10, 2) := by decide +kernel
theorem dX8_characterOf_47 : decode cX8_characterOf 47 = .ok (.if_icmp .ge 19, 3) := by decide +kernel
theorem dX8_characterOf_50 : decode cX8_characterOf 50 = .ok (.iload_n 2, 1) := by decide +kernel
theorem dX8_characterOf_51 : decode cX8_characterOf 51 = .ok (.bipush 9, 2) := by decide +kernel
theorem dX8_characterOf_53 : decode cX8_characterOf 53 = .ok (.if_icmp .ne 8, 3) := by decide +kernel
theorem dX8_characterOf_56 : decode cX8_characterOf 56 = .ok (.bipush 48, 2) := by decide +kernel
theorem dX8_characterOf_58 : decode cX8_characterOf 58 = .ok (.goto 7, 3) := by decide +kernel
theorem dX8_characterOf_61 : decode cX8_characterOf 61 = .ok (.bipush 49, 2) := by decide +kernel
theorem dX8_characterOf_63 : decode cX8_characterOf 63 = .ok (.iload_n 2, 1) := by decide +kernel
theorem dX8_characterOf_64 : decode cX8_characterOf 64 = .ok (.iadd, 1) := by decide +kernel
theorem dX8_characterOf_65 : decode cX8_characterOf 65 = .ok (.ireturn, 1) := by decide +kernel
theorem dX8_characterOf_66 : decode cX8_characterOf 66 = .ok (.bipush 97, 2) := by decide +kernel
theorem dX8_characterOf_68 : decode cX8_characterOf 68 = .ok (.iload_n 2, 1) := by decide +kernel
theorem dX8_characterOf_69 : decode cX8_characterOf 69 = .ok (.iadd, 1) := by decide +kernel
theorem dX8_characterOf_70 : decode cX8_characterOf 70 = .ok (.ireturn, 1) := by decide +kernel
theorem dX8_typed_0 : decode cX8_typed 0 = .ok (.iload_n 1, 1) := by decide +kernel
theorem dX8_typed_1 : decode cX8_typed 1 = .ok (.invokestatic 30, 3) := by decide +kernel
theorem dX8_typed_4 : decode cX8_typed 4 = .ok (.ifCond .ne 10, 3) := by decide +kernel
theorem dX8_typed_7 : decode cX8_typed 7 = .ok (.iload_n 1, 1) := by decide +kernel
theorem dX8_typed_8 : decode cX8_typed 8 = .ok (.invokestatic 34, 3) := by decide +kernel
theorem dX8_typed_11 : decode cX8_typed 11 = .ok (.ifCond .eq 16, 3) := by decide +kernel
theorem dX8_typed_14 : decode cX8_typed 14 = .ok (.aload_n 0, 1) := by decide +kernel
theorem dX8_typed_15 : decode cX8_typed 15 = .ok (.iconst 0, 1) := by decide +kernel
theorem dX8_typed_16 : decode cX8_typed 16 = .ok (.putfield 15, 3) := by decide +kernel
theorem dX8_typed_19 : decode cX8_typed 19 = .ok (.aload_n 0, 1) := by decide +kernel
theorem dX8_typed_20 : decode cX8_typed 20 = .ok (.iconst 0, 1) := by decide +kernel
theorem dX8_typed_21 : decode cX8_typed 21 = .ok (.putfield 18, 3) := by decide +kernel
theorem dX8_typed_24 : decode cX8_typed 24 = .ok (.goto 14, 3) := by decide +kernel
theorem dX8_typed_27 : decode cX8_typed 27 = .ok (.iload_n 1, 1) := by decide +kernel
theorem dX8_typed_28 : decode cX8_typed 28 = .ok (.bipush 32, 2) := by decide +kernel
theorem dX8_typed_30 : decode cX8_typed 30 = .ok (.if_icmp .ne 8, 3) := by decide +kernel
theorem dX8_typed_33 : decode cX8_typed 33 = .ok (.aload_n 0, 1) := by decide +kernel
theorem dX8_typed_34 : decode cX8_typed 34 = .ok (.iconst 0, 1) := by decide +kernel
theorem dX8_typed_35 : decode cX8_typed 35 = .ok (.putfield 18, 3) := by decide +kernel
theorem dX8_typed_38 : decode cX8_typed 38 = .ok (.return_, 1) := by decide +kernel
theorem dX6_init_0 : decode cX6_init 0 = .ok (.aload_n 0, 1) := by decide +kernel
theorem dX6_init_1 : decode cX6_init 1 = .ok (.invokespecial 3, 3) := by decide +kernel
theorem dX6_init_4 : decode cX6_init 4 = .ok (.aload_n 0, 1) := by decide +kernel
theorem dX6_init_5 : decode cX6_init 5 = .ok (.aload_n 1, 1) := by decide +kernel
theorem dX6_init_6 : decode cX6_init 6 = .ok (.putfield 9, 3) := by decide +kernel
theorem dX6_init_9 : decode cX6_init 9 = .ok (.aload_n 0, 1) := by decide +kernel
theorem dX6_init_10 : decode cX6_init 10 = .ok (.aload_n 2, 1) := by decide +kernel
theorem dX6_init_11 : decode cX6_init 11 = .ok (.putfield 15, 3) := by decide +kernel
theorem dX6_init_14 : decode cX6_init 14 = .ok (.aload_n 0, 1) := by decide +kernel
theorem dX6_init_15 : decode cX6_init 15 = .ok (.new 19, 3) := by decide +kernel
theorem dX6_init_18 : decode cX6_init 18 = .ok (.dup, 1) := by decide +kernel
theorem dX6_init_19 : decode cX6_init 19 = .ok (.bipush 80, 2) := by decide +kernel
theorem dX6_init_21 : decode cX6_init 21 = .ok (.invokespecial 21, 3) := by decide +kernel
theorem dX6_init_24 : decode cX6_init 24 = .ok (.putfield 24, 3) := by decide +kernel
theorem dX6_init_27 : decode cX6_init 27 = .ok (.return_, 1) := by decide +kernel
theorem dX6_mayTellAgain_0 : decode cX6_mayTellAgain 0 = .ok (.aload_n 0, 1) := by decide +kernel
theorem dX6_mayTellAgain_1 : decode cX6_mayTellAgain 1 = .ok (.getfield 101, 3) := by decide +kernel
theorem dX6_mayTellAgain_4 : decode cX6_mayTellAgain 4 = .ok (.aload_n 1, 1) := by decide +kernel
theorem dX6_mayTellAgain_5 : decode cX6_mayTellAgain 5 = .ok (.getfield 104, 3) := by decide +kernel
theorem dX6_mayTellAgain_8 : decode cX6_mayTellAgain 8 = .ok (.isub, 1) := by decide +kernel
theorem dX6_mayTellAgain_9 : decode cX6_mayTellAgain 9 = .ok (.iconst 5, 1) := by decide +kernel
theorem dX6_mayTellAgain_10 : decode cX6_mayTellAgain 10 = .ok (.if_icmp .lt 7, 3) := by decide +kernel
theorem dX6_mayTellAgain_13 : decode cX6_mayTellAgain 13 = .ok (.iconst 1, 1) := by decide +kernel
theorem dX6_mayTellAgain_14 : decode cX6_mayTellAgain 14 = .ok (.goto 4, 3) := by decide +kernel
theorem dX6_mayTellAgain_17 : decode cX6_mayTellAgain 17 = .ok (.iconst 0, 1) := by decide +kernel
theorem dX6_mayTellAgain_18 : decode cX6_mayTellAgain 18 = .ok (.ireturn, 1) := by decide +kernel
theorem dX6_tellNews_0 : decode cX6_tellNews 0 = .ok (.aload_n 1, 1) := by decide +kernel
theorem dX6_tellNews_1 : decode cX6_tellNews 1 = .ok (.iconst 1, 1) := by decide +kernel
theorem dX6_tellNews_2 : decode cX6_tellNews 2 = .ok (.putfield 80, 3) := by decide +kernel
theorem dX6_tellNews_5 : decode cX6_tellNews 5 = .ok (.aload_n 1, 1) := by decide +kernel
theorem dX6_tellNews_6 : decode cX6_tellNews 6 = .ok (.aload_n 0, 1) := by decide +kernel
theorem dX6_tellNews_7 : decode cX6_tellNews 7 = .ok (.getfield 101, 3) := by decide +kernel
theorem dX6_tellNews_10 : decode cX6_tellNews 10 = .ok (.putfield 104, 3) := by decide +kernel
theorem dX6_tellNews_13 : decode cX6_tellNews 13 = .ok (.aload_n 0, 1) := by decide +kernel
theorem dX6_tellNews_14 : decode cX6_tellNews 14 = .ok (.getfield 15, 3) := by decide +kernel
theorem dX6_tellNews_17 : decode cX6_tellNews 17 = .ok (.aload_n 2, 1) := by decide +kernel
theorem dX6_tellNews_18 : decode cX6_tellNews 18 = .ok (.invokevirtual 107, 3) := by decide +kernel
theorem dX6_tellNews_21 : decode cX6_tellNews 21 = .ok (.return_, 1) := by decide +kernel
theorem dX6_swallow_0 : decode cX6_swallow 0 = .ok (.aload_n 1, 1) := by decide +kernel
theorem dX6_swallow_1 : decode cX6_swallow 1 = .ok (.getfield 95, 3) := by decide +kernel
theorem dX6_swallow_4 : decode cX6_swallow 4 = .ok (.invokevirtual 58, 3) := by decide +kernel
theorem dX6_swallow_7 : decode cX6_swallow 7 = .ok (.ifCond .le 20, 3) := by decide +kernel
theorem dX6_swallow_10 : decode cX6_swallow 10 = .ok (.aload_n 1, 1) := by decide +kernel
theorem dX6_swallow_11 : decode cX6_swallow 11 = .ok (.getfield 95, 3) := by decide +kernel
theorem dX6_swallow_14 : decode cX6_swallow 14 = .ok (.invokevirtual 34, 3) := by decide +kernel
theorem dX6_swallow_17 : decode cX6_swallow 17 = .ok (.aload_n 0, 1) := by decide +kernel
theorem dX6_swallow_18 : decode cX6_swallow 18 = .ok (.dup, 1) := by decide +kernel
theorem dX6_swallow_19 : decode cX6_swallow 19 = .ok (.getfield 110, 3) := by decide +kernel
theorem dX6_swallow_22 : decode cX6_swallow 22 = .ok (.iconst 1, 1) := by decide +kernel
theorem dX6_swallow_23 : decode cX6_swallow 23 = .ok (.iadd, 1) := by decide +kernel
theorem dX6_swallow_24 : decode cX6_swallow 24 = .ok (.putfield 110, 3) := by decide +kernel
theorem dX6_swallow_27 : decode cX6_swallow 27 = .ok (.return_, 1) := by decide +kernel
theorem dX6_tell_0 : decode cX6_tell 0 = .ok (.aload_n 1, 1) := by decide +kernel
theorem dX6_tell_1 : decode cX6_tell 1 = .ok (.ifnull 20, 3) := by decide +kernel
theorem dX6_tell_4 : decode cX6_tell 4 = .ok (.aload_n 1, 1) := by decide +kernel
theorem dX6_tell_5 : decode cX6_tell 5 = .ok (.getfield 72, 3) := by decide +kernel
theorem dX6_tell_8 : decode cX6_tell 8 = .ok (.ifCond .eq 13, 3) := by decide +kernel
theorem dX6_tell_11 : decode cX6_tell 11 = .ok (.aload_n 0, 1) := by decide +kernel
theorem dX6_tell_12 : decode cX6_tell 12 = .ok (.getfield 24, 3) := by decide +kernel
theorem dX6_tell_15 : decode cX6_tell 15 = .ok (.invokevirtual 58, 3) := by decide +kernel
theorem dX6_tell_18 : decode cX6_tell 18 = .ok (.ifCond .ne 4, 3) := by decide +kernel
theorem dX6_tell_21 : decode cX6_tell 21 = .ok (.return_, 1) := by decide +kernel
theorem dX6_tell_22 : decode cX6_tell 22 = .ok (.aload_n 1, 1) := by decide +kernel
theorem dX6_tell_23 : decode cX6_tell 23 = .ok (.getfield 72, 3) := by decide +kernel
theorem dX6_tell_26 : decode cX6_tell 26 = .ok (.iconst 2, 1) := by decide +kernel
theorem dX6_tell_27 : decode cX6_tell 27 = .ok (.if_icmp .ne 17, 3) := by decide +kernel
theorem dX6_tell_30 : decode cX6_tell 30 = .ok (.aload_n 0, 1) := by decide +kernel
theorem dX6_tell_31 : decode cX6_tell 31 = .ok (.getfield 15, 3) := by decide +kernel
theorem dX6_tell_34 : decode cX6_tell 34 = .ok (.aload_n 0, 1) := by decide +kernel
theorem dX6_tell_35 : decode cX6_tell 35 = .ok (.getfield 24, 3) := by decide +kernel
theorem dX6_tell_38 : decode cX6_tell 38 = .ok (.invokevirtual 75, 3) := by decide +kernel
theorem dX6_tell_41 : decode cX6_tell 41 = .ok (.goto 46, 3) := by decide +kernel
theorem dX6_tell_44 : decode cX6_tell 44 = .ok (.aload_n 1, 1) := by decide +kernel
theorem dX6_tell_45 : decode cX6_tell 45 = .ok (.getfield 80, 3) := by decide +kernel
theorem dX6_tell_48 : decode cX6_tell 48 = .ok (.ifCond .eq 11, 3) := by decide +kernel
theorem dX6_tell_51 : decode cX6_tell 51 = .ok (.aload_n 0, 1) := by decide +kernel
theorem dX6_tell_52 : decode cX6_tell 52 = .ok (.aload_n 1, 1) := by decide +kernel
theorem dX6_tell_53 : decode cX6_tell 53 = .ok (.invokevirtual 84, 3) := by decide +kernel
theorem dX6_tell_56 : decode cX6_tell 56 = .ok (.ifCond .eq 15, 3) := by decide +kernel
theorem dX6_tell_59 : decode cX6_tell 59 = .ok (.aload_n 0, 1) := by decide +kernel
theorem dX6_tell_60 : decode cX6_tell 60 = .ok (.aload_n 1, 1) := by decide +kernel
theorem dX6_tell_61 : decode cX6_tell 61 = .ok (.aload_n 0, 1) := by decide +kernel
theorem dX6_tell_62 : decode cX6_tell 62 = .ok (.getfield 24, 3) := by decide +kernel
theorem dX6_tell_65 : decode cX6_tell 65 = .ok (.invokevirtual 88, 3) := by decide +kernel
theorem dX6_tell_68 : decode cX6_tell 68 = .ok (.goto 19, 3) := by decide +kernel
theorem dX6_tell_71 : decode cX6_tell 71 = .ok (.aload_n 0, 1) := by decide +kernel
theorem dX6_tell_72 : decode cX6_tell 72 = .ok (.aload_n 1, 1) := by decide +kernel
theorem dX6_tell_73 : decode cX6_tell 73 = .ok (.invokevirtual 92, 3) := by decide +kernel
theorem dX6_tell_76 : decode cX6_tell 76 = .ok (.aload_n 1, 1) := by decide +kernel
theorem dX6_tell_77 : decode cX6_tell 77 = .ok (.getfield 95, 3) := by decide +kernel
theorem dX6_tell_80 : decode cX6_tell 80 = .ok (.aload_n 0, 1) := by decide +kernel
theorem dX6_tell_81 : decode cX6_tell 81 = .ok (.getfield 24, 3) := by decide +kernel
theorem dX6_tell_84 : decode cX6_tell 84 = .ok (.invokevirtual 98, 3) := by decide +kernel
theorem dX6_tell_87 : decode cX6_tell 87 = .ok (.return_, 1) := by decide +kernel
theorem dX6_tellWords_0 : decode cX6_tellWords 0 = .ok (.aload_n 1, 1) := by decide +kernel
theorem dX6_tellWords_1 : decode cX6_tellWords 1 = .ok (.invokevirtual 28, 3) := by decide +kernel
theorem dX6_tellWords_4 : decode cX6_tellWords 4 = .ok (.ifCond .eq 26, 3) := by decide +kernel
theorem dX6_tellWords_7 : decode cX6_tellWords 7 = .ok (.aload_n 0, 1) := by decide +kernel
theorem dX6_tellWords_8 : decode cX6_tellWords 8 = .ok (.getfield 24, 3) := by decide +kernel
theorem dX6_tellWords_11 : decode cX6_tellWords 11 = .ok (.invokevirtual 34, 3) := by decide +kernel
theorem dX6_tellWords_14 : decode cX6_tellWords 14 = .ok (.aload_n 1, 1) := by decide +kernel
theorem dX6_tellWords_15 : decode cX6_tellWords 15 = .ok (.aload_n 0, 1) := by decide +kernel
theorem dX6_tellWords_16 : decode cX6_tellWords 16 = .ok (.getfield 24, 3) := by decide +kernel
theorem dX6_tellWords_19 : decode cX6_tellWords 19 = .ok (.invokevirtual 37, 3) := by decide +kernel
theorem dX6_tellWords_22 : decode cX6_tellWords 22 = .ok (.aload_n 0, 1) := by decide +kernel
theorem dX6_tellWords_23 : decode cX6_tellWords 23 = .ok (.aload_n 1, 1) := by decide +kernel
theorem dX6_tellWords_24 : decode cX6_tellWords 24 = .ok (.invokevirtual 41, 3) := by decide +kernel
theorem dX6_tellWords_27 : decode cX6_tellWords 27 = .ok (.invokevirtual 45, 3) := by decide +kernel
theorem dX6_tellWords_30 : decode cX6_tellWords 30 = .ok (.return_, 1) := by decide +kernel
abbrev mX7_nextForFocus : gM := (yX7_nextForFocus, cX7_nextForFocus, 6, (Option.some (FieldType.object "BrailleDesk$Element")), [])
theorem caX7_nextForFocus : cal mX7_nextForFocus 1 := ⟨xw 691 (by decide +kernel) rfl, xw 30 (by decide +kernel) rfl, by decide, by decide +kernel⟩
theorem cvX7_nextForFocus : calV mX7_nextForFocus := ⟨xw 689 (by decide +kernel) rfl, xw 690 (by decide +kernel) rfl⟩
abbrev mX8_init : gM := (yX8_init, cX8_init, 1, (Option.none : Option FieldType), [])
theorem caX8_init : cal mX8_init 0 := ⟨xw 294 (by decide +kernel) rfl, xw 38 (by decide +kernel) rfl, by decide, by decide +kernel⟩
theorem ciX8_init : Cond.instanceMethod yX8_init ∈ XW := xw 293 (by decide +kernel) rfl
abbrev mX8_begin : gM := (yX8_begin, cX8_begin, 1, (Option.none : Option FieldType), [])
theorem caX8_begin : cal mX8_begin 0 := ⟨xw 712 (by decide +kernel) rfl, xw 38 (by decide +kernel) rfl, by decide, by decide +kernel⟩
theorem cvX8_begin : calV mX8_begin := ⟨xw 710 (by decide +kernel) rfl, xw 711 (by decide +kernel) rfl⟩
abbrev mX8_end : gM := (yX8_end, cX8_end, 1, (Option.none : Option FieldType), [])
theorem caX8_end : cal mX8_end 0 := ⟨xw 621 (by decide +kernel) rfl, xw 38 (by decide +kernel) rfl, by decide, by decide +kernel⟩
theorem cvX8_end : calV mX8_end := ⟨xw 619 (by decide +kernel) rfl, xw 620 (by decide +kernel) rfl⟩
abbrev mX8_takesSign : gM := (yX8_takesSign, cX8_takesSign, 2, (Option.some FieldType.boolean), [])
theorem caX8_takesSign : cal mX8_takesSign 1 := ⟨xw 745 (by decide +kernel) rfl, xw 38 (by decide +kernel) rfl, by decide, by decide +kernel⟩
theorem cvX8_takesSign : calV mX8_takesSign := ⟨xw 743 (by decide +kernel) rfl, xw 744 (by decide +kernel) rfl⟩
abbrev mX8_characterOf : gM := (yX8_characterOf, cX8_characterOf, 3, (Option.some FieldType.int), [])
theorem caX8_characterOf : cal mX8_characterOf 1 := ⟨xw 765 (by decide +kernel) rfl, xw 38 (by decide +kernel) rfl, by decide, by decide +kernel⟩
theorem cvX8_characterOf : calV mX8_characterOf := ⟨xw 763 (by decide +kernel) rfl, xw 764 (by decide +kernel) rfl⟩
abbrev mX8_typed : gM := (yX8_typed, cX8_typed, 2, (Option.none : Option FieldType), [])
theorem caX8_typed : cal mX8_typed 1 := ⟨xw 780 (by decide +kernel) rfl, xw 38 (by decide +kernel) rfl, by decide, by decide +kernel⟩
theorem cvX8_typed : calV mX8_typed := ⟨xw 778 (by decide +kernel) rfl, xw 779 (by decide +kernel) rfl⟩
abbrev mX6_init : gM := (yX6_init, cX6_init, 3, (Option.none : Option FieldType), [])
theorem caX6_init : cal mX6_init 2 := ⟨xw 243 (by decide +kernel) rfl, xw 35 (by decide +kernel) rfl, by decide, by decide +kernel⟩
theorem ciX6_init : Cond.instanceMethod yX6_init ∈ XW := xw 242 (by decide +kernel) rfl
abbrev mX6_mayTellAgain : gM := (yX6_mayTellAgain, cX6_mayTellAgain, 2, (Option.some FieldType.boolean), [])
theorem caX6_mayTellAgain : cal mX6_mayTellAgain 1 := ⟨xw 810 (by decide +kernel) rfl, xw 35 (by decide +kernel) rfl, by decide, by decide +kernel⟩
theorem cvX6_mayTellAgain : calV mX6_mayTellAgain := ⟨xw 809 (by decide +kernel) rfl, xw 19 (by decide +kernel) rfl⟩
abbrev mX6_tellNews : gM := (yX6_tellNews, cX6_tellNews, 3, (Option.none : Option FieldType), [])
theorem caX6_tellNews : cal mX6_tellNews 2 := ⟨xw 822 (by decide +kernel) rfl, xw 35 (by decide +kernel) rfl, by decide, by decide +kernel⟩
theorem cvX6_tellNews : calV mX6_tellNews := ⟨xw 821 (by decide +kernel) rfl, xw 21 (by decide +kernel) rfl⟩
abbrev mX6_swallow : gM := (yX6_swallow, cX6_swallow, 2, (Option.none : Option FieldType), [])
theorem caX6_swallow : cal mX6_swallow 1 := ⟨xw 840 (by decide +kernel) rfl, xw 35 (by decide +kernel) rfl, by decide, by decide +kernel⟩
theorem cvX6_swallow : calV mX6_swallow := ⟨xw 838 (by decide +kernel) rfl, xw 839 (by decide +kernel) rfl⟩
abbrev mX6_tell : gM := (yX6_tell, cX6_tell, 2, (Option.none : Option FieldType), [])
theorem caX6_tell : cal mX6_tell 1 := ⟨xw 1027 (by decide +kernel) rfl, xw 35 (by decide +kernel) rfl, by decide, by decide +kernel⟩
theorem cvX6_tell : calV mX6_tell := ⟨xw 1026 (by decide +kernel) rfl, xw 25 (by decide +kernel) rfl⟩
abbrev mX6_tellWords : gM := (yX6_tellWords, cX6_tellWords, 2, (Option.none : Option FieldType), [])
theorem caX6_tellWords : cal mX6_tellWords 1 := ⟨xw 1018 (by decide +kernel) rfl, xw 35 (by decide +kernel) rfl, by decide, by decide +kernel⟩
theorem cvX6_tellWords : calV mX6_tellWords := ⟨xw 1016 (by decide +kernel) rfl, xw 1017 (by decide +kernel) rfl⟩
theorem lkX7_91 : Cond.methodLink RX7 91 yX2_canHaveFocus ∈ XW := xw 693 (by decide +kernel) rfl
theorem lkX8_3 : Cond.methodLink RX8 3 objectInit ∈ XW := xw 295 (by decide +kernel) rfl
theorem pl_X8 : plainName RX8 = true := by decide +kernel
theorem flX8_9 : fl RX8 9 7 0 := ⟨by decide, by decide, xw 296 (by decide +kernel) rfl⟩
theorem flX8_15 : fl RX8 15 7 1 := ⟨by decide, by decide, xw 299 (by decide +kernel) rfl⟩
theorem flX8_18 : fl RX8 18 7 2 := ⟨by decide, by decide, xw 300 (by decide +kernel) rfl⟩
theorem lkX8_21 : Cond.methodLink RX8 21 yX0_letterOf ∈ XW := xw 766 (by decide +kernel) rfl
theorem lkX8_27 : Cond.methodLink RX8 27 yX0_characterOfSign ∈ XW := xw 769 (by decide +kernel) rfl
theorem lkX8_30 : Cond.methodLink RX8 30 yX0_isSmall ∈ XW := xw 781 (by decide +kernel) rfl
theorem lkX8_34 : Cond.methodLink RX8 34 yX0_isCapital ∈ XW := xw 782 (by decide +kernel) rfl
theorem lkX6_3 : Cond.methodLink RX6 3 objectInit ∈ XW := xw 244 (by decide +kernel) rfl
theorem flX6_9 : fl RX6 9 5 0 := ⟨by decide, by decide, xw 247 (by decide +kernel) rfl⟩
theorem flX6_15 : fl RX6 15 5 1 := ⟨by decide, by decide, xw 248 (by decide +kernel) rfl⟩
theorem ccX6_19 : Cond.classLink RX6 19 (hk_C 0) ∈ XW := xw 245 (by decide +kernel) rfl
theorem lkX6_21 : Cond.methodLink RX6 21 yX1_init ∈ XW := xw 246 (by decide +kernel) rfl
theorem flX6_24 : fl RX6 24 5 2 := ⟨by decide, by decide, xw 249 (by decide +kernel) rfl⟩
theorem pl_X6 : plainName RX6 = true := by decide +kernel
theorem flX6_101 : fl RX6 101 5 3 := ⟨by decide, by decide, xw 250 (by decide +kernel) rfl⟩
theorem flX6_104 : fl RX6 104 1 14 := ⟨by decide, by decide, xw 126 (by decide +kernel) rfl⟩
theorem flX6_80 : fl RX6 80 1 13 := ⟨by decide, by decide, xw 125 (by decide +kernel) rfl⟩
theorem lkX6_107 : Cond.methodLink RX6 107 yX9_comeNews ∈ XW := xw 823 (by decide +kernel) rfl
theorem flX6_95 : fl RX6 95 1 12 := ⟨by decide, by decide, xw 124 (by decide +kernel) rfl⟩
theorem lkX6_58 : Cond.methodLink RX6 58 yX1_size ∈ XW := xw 806 (by decide +kernel) rfl
theorem lkX6_34 : Cond.methodLink RX6 34 yX1_clear ∈ XW := xw 836 (by decide +kernel) rfl
theorem flX6_110 : fl RX6 110 5 4 := ⟨by decide, by decide, xw 251 (by decide +kernel) rfl⟩
theorem flX6_72 : fl RX6 72 1 11 := ⟨by decide, by decide, xw 122 (by decide +kernel) rfl⟩
theorem lkX6_88 : Cond.methodLink RX6 88 yX6_tellNews ∈ XW := xw 819 (by decide +kernel) rfl
theorem lkX6_84 : Cond.methodLink RX6 84 yX6_mayTellAgain ∈ XW := xw 807 (by decide +kernel) rfl
theorem lkX6_92 : Cond.methodLink RX6 92 yX6_swallow ∈ XW := xw 837 (by decide +kernel) rfl
theorem lkX6_98 : Cond.methodLink RX6 98 yX1_copy ∈ XW := xw 1035 (by decide +kernel) rfl
theorem lkX6_75 : Cond.methodLink RX6 75 yX9_comeAlert ∈ XW := xw 1028 (by decide +kernel) rfl
theorem lkX6_28 : Cond.methodLink RX6 28 yX2_isShownNow ∈ XW := xw 815 (by decide +kernel) rfl
theorem lkX6_37 : Cond.methodLink RX6 37 yX2_putWords ∈ XW := xw 1019 (by decide +kernel) rfl
theorem lkX6_41 : Cond.methodLink RX6 41 yX2_region ∈ XW := xw 1020 (by decide +kernel) rfl
theorem lkX6_45 : Cond.methodLink RX6 45 yX6_tell ∈ XW := xw 1024 (by decide +kernel) rfl
/-! BrailleDesk$Tree.nextForFocus -/
theorem lX7_nextForFocus_11 {G : gG} {Q : hQ} {P : ((Option Nat) ⊕ (Option Nat)) → Prop} {k n : Nat} (c0 : Nat) (c3 : Int32) (h : hp) (hJ : ∀ q : (Option Nat), P (.inr q) → gV G mX7_nextForFocus 2 Q 67 [none, none, some (sr q), none, none, none] [] (k) (n) h) (hR : ∀ r : (Option Nat), P (.inl (r)) → (pP gR Q h) r) : ∀ (fu : Nat) (a : ((Option Nat) × Int32)), okB (itr (fX7_nextForFocus_B11 c0 c3 h) fu a) P → gV G mX7_nextForFocus 2 Q 11 [some (sr (some c0)), none, some (sr a.1), some (si c3), some (si a.2), none] [] (k) (n) h :=
  lpg (X := fun (a : ((Option Nat) × Int32)) => gV G mX7_nextForFocus 2 Q 11 [some (sr (some c0)), none, some (sr a.1), some (si c3), some (si a.2), none] [] (k) (n) h) (fun a P2 hL hE hF => by
    delta fX7_nextForFocus_B11 at hF
    refine v_iload (pc := 11) (i := 4) dX7_nextForFocus_11 rfl ?_
    refine v_aload_n (pc := 13) (i := 0) dX7_nextForFocus_13 rfl rfl ?_
    refine s_getI (pc := 14) dX7_nextForFocus_14 flX7_34 rfl hF (fun x1 hF => ?_)
    refine v_icmp_ge (pc := 17) 67 dX7_nextForFocus_17 rfl (fun hc => ?_) (fun hc => ?_)
    · replace hF := (okB_if hF).1 hc
      exact v_lle [none, none, some (sr a.1), none, none, none] ⟨rfl, trivial⟩ (hJ a.1 (hE _ (okB_some hF)))
    replace hF := (okB_if hF).2 hc
    refine v_aload_n (pc := 20) (i := 0) dX7_nextForFocus_20 rfl rfl ?_
    refine v_iload (pc := 21) (i := 4) dX7_nextForFocus_21 rfl ?_
    refine cp_V (pc := 23) gR (as := [si a.2]) (st := []) (ci := 6) (N := mX7_inOrder) (k := k) (n := n) (k1 := 0) (n1 := 0) dX7_nextForFocus_23 lkX7_37 caX7_inOrder cvX7_inOrder rfl (by decide) rfl (fun b Q1 hq => tX7_inOrder b a.2 h Q1 hq) ⟨by decide, by decide⟩ (Nat.le_of_ble_eq_true rfl) rfl hF (fun x2 hF => ?_)
    show gV G mX7_nextForFocus 2 Q 26 [some (sr (some c0)), none, some (sr a.1), some (si c3), some (si a.2), none] [sr x2] (k) (n) h
    refine v_astore (pc := 26) (i := 5) [some (sr (some c0)), none, some (sr a.1), some (si c3), some (si a.2), some (sr x2)] dX7_nextForFocus_26 (by decide) rfl rfl ?_
    refine v_aload (pc := 28) (i := 5) dX7_nextForFocus_28 rfl ?_
    refine s_ifnull (pc := 30) 61 dX7_nextForFocus_30 rfl hF (fun hF => ?_) (fun hF => ?_)
    · refine v_iinc (pc := 61) (i := 4) (a.2 + (1 : Int32)) [some (sr (some c0)), none, some (sr a.1), some (si c3), some (si (a.2 + (1 : Int32))), some (sr x2)] dX7_nextForFocus_61 rfl rfl rfl rfl ?_
      refine v_goto (pc := 64) 11 dX7_nextForFocus_64 rfl ?_
      exact v_lle [some (sr (some c0)), none, some (sr a.1), some (si c3), some (si (a.2 + (1 : Int32))), none] ⟨rfl, rfl, rfl, rfl, trivial⟩ (hL (a.1, a.2 + (1 : Int32)) (okB_some hF))
    refine v_aload (pc := 33) (i := 5) dX7_nextForFocus_33 rfl ?_
    refine cp_V (pc := 35) gI (as := []) (st := []) (ci := 1) (N := mX2_canHaveFocus) (k := k) (n := n) (k1 := 0) (n1 := 0) dX7_nextForFocus_35 lkX7_91 caX2_canHaveFocus cvX2_canHaveFocus rfl (by decide) rfl (fun b Q1 hq => tX2_canHaveFocus b h Q1 hq) ⟨by decide, by decide⟩ (Nat.le_of_ble_eq_true rfl) rfl hF (fun x3 hF => ?_)
    show gV G mX7_nextForFocus 2 Q 38 [some (sr (some c0)), none, some (sr a.1), some (si c3), some (si a.2), some (sr x2)] [si x3] (k) (n) h
    refine v_if_eq (pc := 38) 61 dX7_nextForFocus_38 rfl (fun hc => ?_) (fun hc => ?_)
    · replace hF := (okB_if hF).1 hc
      refine v_iinc (pc := 61) (i := 4) (a.2 + (1 : Int32)) [some (sr (some c0)), none, some (sr a.1), some (si c3), some (si (a.2 + (1 : Int32))), some (sr x2)] dX7_nextForFocus_61 rfl rfl rfl rfl ?_
      refine v_goto (pc := 64) 11 dX7_nextForFocus_64 rfl ?_
      exact v_lle [some (sr (some c0)), none, some (sr a.1), some (si c3), some (si (a.2 + (1 : Int32))), none] ⟨rfl, rfl, rfl, rfl, trivial⟩ (hL (a.1, a.2 + (1 : Int32)) (okB_some hF))
    replace hF := (okB_if hF).2 hc
    refine v_iload (pc := 41) (i := 4) dX7_nextForFocus_41 rfl ?_
    refine v_iload_n (pc := 43) (i := 3) dX7_nextForFocus_43 rfl rfl ?_
    refine v_icmp_le (pc := 44) 50 dX7_nextForFocus_44 rfl (fun hc => ?_) (fun hc => ?_)
    · replace hF := (okB_if hF).1 hc
      refine v_aload_n (pc := 50) (i := 2) dX7_nextForFocus_50 rfl rfl ?_
      refine s_ifnonnull (pc := 51) 59 dX7_nextForFocus_51 rfl hF (fun hF => ?_) (fun hF => ?_)
      · refine v_aload_n (pc := 59) (i := 2) dX7_nextForFocus_59 rfl rfl ?_
        refine v_astore_n (pc := 60) (i := 2) [some (sr (some c0)), none, some (sr a.1), some (si c3), some (si a.2), some (sr x2)] dX7_nextForFocus_60 rfl (by decide) rfl rfl ?_
        refine v_iinc (pc := 61) (i := 4) (a.2 + (1 : Int32)) [some (sr (some c0)), none, some (sr a.1), some (si c3), some (si (a.2 + (1 : Int32))), some (sr x2)] dX7_nextForFocus_61 rfl rfl rfl rfl ?_
        refine v_goto (pc := 64) 11 dX7_nextForFocus_64 rfl ?_
        exact v_lle [some (sr (some c0)), none, some (sr a.1), some (si c3), some (si (a.2 + (1 : Int32))), none] ⟨rfl, rfl, rfl, rfl, trivial⟩ (hL (a.1, a.2 + (1 : Int32)) (okB_some hF))
      refine v_aload (pc := 54) (i := 5) dX7_nextForFocus_54 rfl ?_
      refine v_goto (pc := 56) 60 dX7_nextForFocus_56 rfl ?_
      refine v_astore_n (pc := 60) (i := 2) [some (sr (some c0)), none, some (sr x2), some (si c3), some (si a.2), some (sr x2)] dX7_nextForFocus_60 rfl (by decide) rfl rfl ?_
      refine v_iinc (pc := 61) (i := 4) (a.2 + (1 : Int32)) [some (sr (some c0)), none, some (sr x2), some (si c3), some (si (a.2 + (1 : Int32))), some (sr x2)] dX7_nextForFocus_61 rfl rfl rfl rfl ?_
      refine v_goto (pc := 64) 11 dX7_nextForFocus_64 rfl ?_
      exact v_lle [some (sr (some c0)), none, some (sr x2), some (si c3), some (si (a.2 + (1 : Int32))), none] ⟨rfl, rfl, rfl, rfl, trivial⟩ (hL (x2, a.2 + (1 : Int32)) (okB_some hF))
    replace hF := (okB_if hF).2 hc
    refine v_aload (pc := 47) (i := 5) dX7_nextForFocus_47 rfl ?_
    exact v_aret (pc := 49) dX7_nextForFocus_49 rfl (Or.inl ⟨_, rfl⟩) (hR _ (hE _ (okB_some hF))))
theorem tX7_nextForFocus {G : gG} (a0 : Nat) (a1 : (Option Nat)) (h : hp) (Q : hQ) (hF : okB (fX7_nextForFocus a0 a1 h) (pP gR Q h)) : gS G mX7_nextForFocus 2 0 0 [sr (some a0), sr a1] h Q := by
  delta fX7_nextForFocus at hF
  refine gS_at [some (sr (some a0)), some (sr a1), none, none, none, none] pl_X7 rfl (Nat.le_of_ble_eq_true rfl) rfl ?_
  refine v_null (pc := 0) dX7_nextForFocus_0 ?_
  refine v_astore_n (pc := 1) (i := 2) [some (sr (some a0)), some (sr a1), some (sr (none : Option Nat)), none, none, none] dX7_nextForFocus_1 rfl (by decide) rfl rfl ?_
  refine v_aload_n (pc := 2) (i := 0) dX7_nextForFocus_2 rfl rfl ?_
  refine v_aload_n (pc := 3) (i := 1) dX7_nextForFocus_3 rfl rfl ?_
  refine cp_V (pc := 4) gI (as := [sr a1]) (st := []) (ci := 6) (N := mX7_placeInOrder) (k := 0) (n := 0) (k1 := 0) (n1 := 0) dX7_nextForFocus_4 lkX7_84 caX7_placeInOrder cvX7_placeInOrder rfl (by decide) rfl (fun b Q1 hq => tX7_placeInOrder b a1 h Q1 hq) ⟨by decide, by decide⟩ (Nat.le_of_ble_eq_true rfl) rfl hF (fun x1 hF => ?_)
  show gV G mX7_nextForFocus 2 Q 7 [some (sr (some a0)), some (sr a1), some (sr (none : Option Nat)), none, none, none] [si x1] (0) (0) h
  refine v_istore_n (pc := 7) (i := 3) [some (sr (some a0)), some (sr a1), some (sr (none : Option Nat)), some (si x1), none, none] dX7_nextForFocus_7 rfl (by decide) rfl rfl ?_
  refine v_iconst (pc := 8) (v := (0 : Int32)) dX7_nextForFocus_8 rfl ?_
  refine v_istore (pc := 9) (i := 4) [some (sr (some a0)), some (sr a1), some (sr (none : Option Nat)), some (si x1), some (si (0 : Int32)), none] dX7_nextForFocus_9 (by decide) rfl rfl ?_
  refine mgR (X := fun q2 => gV G mX7_nextForFocus 2 Q 67 [none, none, some (sr q2), none, none, none] [] (0) (0) h) hF (fun _ hj3 hr3 hF => v_lle [some (sr (some a0)), none, some (sr (none : Option Nat)), some (si x1), some (si (0 : Int32)), none] ⟨rfl, rfl, rfl, rfl, trivial⟩ (lX7_nextForFocus_11 a0 x1 h hj3 (fun _ hp => (hr3 _ hp)) FU ((none : Option Nat), (0 : Int32)) hF)) (fun q2 hF => ?_)
  refine v_aload_n (pc := 67) (i := 2) dX7_nextForFocus_67 rfl rfl ?_
  exact v_aret (pc := 68) dX7_nextForFocus_68 rfl (Or.inl ⟨_, rfl⟩) (okr hF fun q => q)
/-! BrailleDesk$Typist.<init> -/
theorem tX8_init {G : gG} (a0 : Nat) (h : hp) (Q : hQ) (hF : okB (fX8_init a0 h) (pH gU Q)) : gS G mX8_init 1 0 0 [sr (some a0)] h Q := by
  delta fX8_init at hF
  refine gS_at [some (sr (some a0))] pl_X8 rfl (Nat.le_of_ble_eq_true rfl) rfl ?_
  refine v_aload_n (pc := 0) (i := 0) dX8_init_0 rfl rfl ?_
  refine v_objI (pc := 1) dX8_init_1 lkX8_3 oi_c oi_d (Nat.le_of_ble_eq_true rfl) (by decide) ?_
  exact v_ret (pc := 4) dX8_init_4 rfl (okr hF fun q => q)
/-! BrailleDesk$Typist.begin -/
theorem tX8_begin {G : gG} (a0 : Nat) (h : hp) (Q : hQ) (hF : okB (fX8_begin a0 h) (pH gU Q)) : gS G mX8_begin 0 0 0 [sr (some a0)] h Q := by
  delta fX8_begin at hF
  refine gS_at [some (sr (some a0))] pl_X8 rfl (Nat.le_of_ble_eq_true rfl) rfl ?_
  refine v_aload_n (pc := 0) (i := 0) dX8_begin_0 rfl rfl ?_
  refine v_iconst (pc := 1) (v := (1 : Int32)) dX8_begin_1 rfl ?_
  refine s_putZ (pc := 2) dX8_begin_2 flX8_9 (Or.inl rfl) rfl hF (fun h1 hF => ?_)
  refine v_aload_n (pc := 5) (i := 0) dX8_begin_5 rfl rfl ?_
  refine v_iconst (pc := 6) (v := (0 : Int32)) dX8_begin_6 rfl ?_
  refine s_putZ (pc := 7) dX8_begin_7 flX8_15 (Or.inl rfl) rfl hF (fun h2 hF => ?_)
  refine v_aload_n (pc := 10) (i := 0) dX8_begin_10 rfl rfl ?_
  refine v_iconst (pc := 11) (v := (0 : Int32)) dX8_begin_11 rfl ?_
  refine s_putZ (pc := 12) dX8_begin_12 flX8_18 (Or.inl rfl) rfl hF (fun h3 hF => ?_)
  exact v_ret (pc := 15) dX8_begin_15 rfl (okr hF fun q => q)
/-! BrailleDesk$Typist.end -/
theorem tX8_end {G : gG} (a0 : Nat) (h : hp) (Q : hQ) (hF : okB (fX8_end a0 h) (pH gU Q)) : gS G mX8_end 0 0 0 [sr (some a0)] h Q := by
  delta fX8_end at hF
  refine gS_at [some (sr (some a0))] pl_X8 rfl (Nat.le_of_ble_eq_true rfl) rfl ?_
  refine v_aload_n (pc := 0) (i := 0) dX8_end_0 rfl rfl ?_
  refine v_iconst (pc := 1) (v := (0 : Int32)) dX8_end_1 rfl ?_
  refine s_putZ (pc := 2) dX8_end_2 flX8_9 (Or.inl rfl) rfl hF (fun h1 hF => ?_)
  exact v_ret (pc := 5) dX8_end_5 rfl (okr hF fun q => q)
/-! BrailleDesk$Typist.takesSign -/
theorem tX8_takesSign {G : gG} (a0 : Nat) (a1 : Int32) (h : hp) (Q : hQ) (hF : okB (fX8_takesSign a0 a1 h) (pH gI Q)) : gS G mX8_takesSign 0 0 0 [sr (some a0), si a1] h Q := by
  delta fX8_takesSign at hF
  refine gS_at [some (sr (some a0)), some (si a1)] pl_X8 rfl (Nat.le_of_ble_eq_true rfl) rfl ?_
  refine v_iload_n (pc := 0) (i := 1) dX8_takesSign_0 rfl rfl ?_
  by_cases hc32 : a1 = (32 : Int32)
  · replace hF := (okB_if hF).1 hc32
    refine v_lookup (pc := 1) 36 dX8_takesSign_1 (by decide) (by rw [hc32]; first | done | decide) rfl ?_
    refine v_aload_n (pc := 36) (i := 0) dX8_takesSign_36 rfl rfl ?_
    refine v_iconst (pc := 37) (v := (1 : Int32)) dX8_takesSign_37 rfl ?_
    refine s_putZ (pc := 38) dX8_takesSign_38 flX8_15 (Or.inl rfl) rfl hF (fun h1 hF => ?_)
    refine v_iconst (pc := 41) (v := (1 : Int32)) dX8_takesSign_41 rfl ?_
    exact v_iret (pc := 42) dX8_takesSign_42 rfl rfl (okr hF fun q => q)
  replace hF := (okB_if hF).2 hc32
  by_cases hc48 : a1 = (48 : Int32)
  · replace hF := (okB_if hF).1 hc48
    refine v_lookup (pc := 1) 50 dX8_takesSign_1 (by decide) (by rw [hc48]; first | done | decide) rfl ?_
    refine v_aload_n (pc := 50) (i := 0) dX8_takesSign_50 rfl rfl ?_
    refine v_iconst (pc := 51) (v := (0 : Int32)) dX8_takesSign_51 rfl ?_
    refine s_putZ (pc := 52) dX8_takesSign_52 flX8_18 (Or.inl rfl) rfl hF (fun h2 hF => ?_)
    refine v_iconst (pc := 55) (v := (1 : Int32)) dX8_takesSign_55 rfl ?_
    exact v_iret (pc := 56) dX8_takesSign_56 rfl rfl (okr hF fun q => q)
  replace hF := (okB_if hF).2 hc48
  by_cases hc60 : a1 = (60 : Int32)
  · replace hF := (okB_if hF).1 hc60
    refine v_lookup (pc := 1) 43 dX8_takesSign_1 (by decide) (by rw [hc60]; first | done | decide) rfl ?_
    refine v_aload_n (pc := 43) (i := 0) dX8_takesSign_43 rfl rfl ?_
    refine v_iconst (pc := 44) (v := (1 : Int32)) dX8_takesSign_44 rfl ?_
    refine s_putZ (pc := 45) dX8_takesSign_45 flX8_18 (Or.inl rfl) rfl hF (fun h3 hF => ?_)
    refine v_iconst (pc := 48) (v := (1 : Int32)) dX8_takesSign_48 rfl ?_
    exact v_iret (pc := 49) dX8_takesSign_49 rfl rfl (okr hF fun q => q)
  replace hF := (okB_if hF).2 hc60
  refine v_lookup (pc := 1) 57 dX8_takesSign_1 (by decide) (look_d (fun p hp => ?_)) rfl ?_
  · rcases List.mem_cons.mp hp with rfl | hp
    · exact ne_toInt (k := (32 : Int32)) (by decide) hc32
    rcases List.mem_cons.mp hp with rfl | hp
    · exact ne_toInt (k := (48 : Int32)) (by decide) hc48
    rcases List.mem_cons.mp hp with rfl | hp
    · exact ne_toInt (k := (60 : Int32)) (by decide) hc60
    cases hp
  refine v_iconst (pc := 57) (v := (0 : Int32)) dX8_takesSign_57 rfl ?_
  exact v_iret (pc := 58) dX8_takesSign_58 rfl rfl (okr hF fun q => q)
/-! BrailleDesk$Typist.characterOf -/
theorem tX8_characterOf {G : gG} (a0 : Nat) (a1 : Int32) (h : hp) (Q : hQ) (hF : okB (fX8_characterOf a0 a1 h) (pP gI Q h)) : gS G mX8_characterOf 1 0 0 [sr (some a0), si a1] h Q := by
  delta fX8_characterOf at hF
  refine gS_at [some (sr (some a0)), some (si a1), none] pl_X8 rfl (Nat.le_of_ble_eq_true rfl) rfl ?_
  refine v_iload_n (pc := 0) (i := 1) dX8_characterOf_0 rfl rfl ?_
  refine v_sipush (pc := 1) (v := (256 : Int32)) dX8_characterOf_1 rfl ?_
  refine v_icmp_ne (pc := 4) 10 dX8_characterOf_4 rfl (fun hc => ?_) (fun hc => ?_)
  · replace hF := (okB_if hF).2 hc
    refine v_iload_n (pc := 10) (i := 1) dX8_characterOf_10 rfl rfl ?_
    refine cp_S (pc := 11) gI (as := [si a1]) (st := []) (N := mX0_letterOf) (k := 0) (n := 0) (k1 := 0) (n1 := 0) dX8_characterOf_11 lkX8_21 caX0_letterOf csX0_letterOf rfl (fun Q1 hq => tX0_letterOf a1 h Q1 hq) ⟨by decide, by decide⟩ (Nat.le_of_ble_eq_true rfl) rfl hF (fun x1 hF => ?_)
    show gV G mX8_characterOf 1 Q 14 [some (sr (some a0)), some (si a1), none] [si x1] (0) (0) h
    refine v_istore_n (pc := 14) (i := 2) [some (sr (some a0)), some (si a1), some (si x1)] dX8_characterOf_14 rfl (by decide) rfl rfl ?_
    refine v_iload_n (pc := 15) (i := 2) dX8_characterOf_15 rfl rfl ?_
    refine v_iconst (pc := 16) (v := (-1 : Int32)) dX8_characterOf_16 rfl ?_
    refine v_icmp_ne (pc := 17) 25 dX8_characterOf_17 rfl (fun hc => ?_) (fun hc => ?_)
    · replace hF := (okB_if hF).2 hc
      refine v_aload_n (pc := 25) (i := 0) dX8_characterOf_25 rfl rfl ?_
      refine s_getI (pc := 26) dX8_characterOf_26 flX8_15 rfl hF (fun x2 hF => ?_)
      refine v_if_eq (pc := 29) 37 dX8_characterOf_29 rfl (fun hc => ?_) (fun hc => ?_)
      · replace hF := (okB_if hF).1 hc
        refine v_aload_n (pc := 37) (i := 0) dX8_characterOf_37 rfl rfl ?_
        refine s_getI (pc := 38) dX8_characterOf_38 flX8_18 rfl hF (fun x3 hF => ?_)
        refine v_if_eq (pc := 41) 66 dX8_characterOf_41 rfl (fun hc => ?_) (fun hc => ?_)
        · replace hF := (okB_if hF).1 hc
          refine v_bipush (pc := 66) (v := (97 : Int32)) dX8_characterOf_66 rfl ?_
          refine v_iload_n (pc := 68) (i := 2) dX8_characterOf_68 rfl rfl ?_
          refine v_iadd (pc := 69) dX8_characterOf_69 ?_
          exact v_iret (pc := 70) dX8_characterOf_70 rfl rfl (okr hF fun q => q)
        replace hF := (okB_if hF).2 hc
        refine v_iload_n (pc := 44) (i := 2) dX8_characterOf_44 rfl rfl ?_
        refine v_bipush (pc := 45) (v := (10 : Int32)) dX8_characterOf_45 rfl ?_
        refine v_icmp_ge (pc := 47) 66 dX8_characterOf_47 rfl (fun hc => ?_) (fun hc => ?_)
        · replace hF := (okB_if hF).1 hc
          refine v_bipush (pc := 66) (v := (97 : Int32)) dX8_characterOf_66 rfl ?_
          refine v_iload_n (pc := 68) (i := 2) dX8_characterOf_68 rfl rfl ?_
          refine v_iadd (pc := 69) dX8_characterOf_69 ?_
          exact v_iret (pc := 70) dX8_characterOf_70 rfl rfl (okr hF fun q => q)
        replace hF := (okB_if hF).2 hc
        refine v_iload_n (pc := 50) (i := 2) dX8_characterOf_50 rfl rfl ?_
        refine v_bipush (pc := 51) (v := (9 : Int32)) dX8_characterOf_51 rfl ?_
        refine v_icmp_ne (pc := 53) 61 dX8_characterOf_53 rfl (fun hc => ?_) (fun hc => ?_)
        · replace hF := (okB_if hF).2 hc
          refine v_bipush (pc := 61) (v := (49 : Int32)) dX8_characterOf_61 rfl ?_
          refine v_iload_n (pc := 63) (i := 2) dX8_characterOf_63 rfl rfl ?_
          refine v_iadd (pc := 64) dX8_characterOf_64 ?_
          exact v_iret (pc := 65) dX8_characterOf_65 rfl rfl (okr hF fun q => q)
        replace hF := (okB_if hF).1 hc
        refine v_bipush (pc := 56) (v := (48 : Int32)) dX8_characterOf_56 rfl ?_
        refine v_goto (pc := 58) 65 dX8_characterOf_58 rfl ?_
        exact v_iret (pc := 65) dX8_characterOf_65 rfl rfl (okr hF fun q => q)
      replace hF := (okB_if hF).2 hc
      refine v_bipush (pc := 32) (v := (65 : Int32)) dX8_characterOf_32 rfl ?_
      refine v_iload_n (pc := 34) (i := 2) dX8_characterOf_34 rfl rfl ?_
      refine v_iadd (pc := 35) dX8_characterOf_35 ?_
      exact v_iret (pc := 36) dX8_characterOf_36 rfl rfl (okr hF fun q => q)
    replace hF := (okB_if hF).1 hc
    refine v_iload_n (pc := 20) (i := 1) dX8_characterOf_20 rfl rfl ?_
    refine cp_S (pc := 21) gI (as := [si a1]) (st := []) (N := mX0_characterOfSign) (k := 0) (n := 0) (k1 := 0) (n1 := 0) dX8_characterOf_21 lkX8_27 caX0_characterOfSign csX0_characterOfSign rfl (fun Q1 hq => tX0_characterOfSign a1 h Q1 hq) ⟨by decide, by decide⟩ (Nat.le_of_ble_eq_true rfl) rfl hF (fun x4 hF => ?_)
    show gV G mX8_characterOf 1 Q 24 [some (sr (some a0)), some (si a1), some (si x1)] [si x4] (0) (0) h
    exact v_iret (pc := 24) dX8_characterOf_24 rfl rfl (okr hF fun q => q)
  replace hF := (okB_if hF).1 hc
  refine v_bipush (pc := 7) (v := (32 : Int32)) dX8_characterOf_7 rfl ?_
  exact v_iret (pc := 9) dX8_characterOf_9 rfl rfl (okr hF fun q => q)
/-! BrailleDesk$Typist.typed -/
theorem tX8_typed {G : gG} (a0 : Nat) (a1 : Int32) (h : hp) (Q : hQ) (hF : okB (fX8_typed a0 a1 h) (pH gU Q)) : gS G mX8_typed 1 0 0 [sr (some a0), si a1] h Q := by
  delta fX8_typed at hF
  refine gS_at [some (sr (some a0)), some (si a1)] pl_X8 rfl (Nat.le_of_ble_eq_true rfl) rfl ?_
  refine v_iload_n (pc := 0) (i := 1) dX8_typed_0 rfl rfl ?_
  refine cp_S (pc := 1) gI (as := [si a1]) (st := []) (N := mX0_isSmall) (k := 0) (n := 0) (k1 := 0) (n1 := 0) dX8_typed_1 lkX8_30 caX0_isSmall csX0_isSmall rfl (fun Q1 hq => tX0_isSmall a1 h Q1 hq) ⟨by decide, by decide⟩ (Nat.le_of_ble_eq_true rfl) rfl hF (fun x1 hF => ?_)
  show gV G mX8_typed 1 Q 4 [some (sr (some a0)), some (si a1)] [si x1] (0) (0) h
  refine v_if_ne (pc := 4) 14 dX8_typed_4 rfl (fun hc => ?_) (fun hc => ?_)
  · replace hF := (okB_if hF).2 hc
    refine v_aload_n (pc := 14) (i := 0) dX8_typed_14 rfl rfl ?_
    refine v_iconst (pc := 15) (v := (0 : Int32)) dX8_typed_15 rfl ?_
    refine s_putZ (pc := 16) dX8_typed_16 flX8_15 (Or.inl rfl) rfl hF (fun h2 hF => ?_)
    refine v_aload_n (pc := 19) (i := 0) dX8_typed_19 rfl rfl ?_
    refine v_iconst (pc := 20) (v := (0 : Int32)) dX8_typed_20 rfl ?_
    refine s_putZ (pc := 21) dX8_typed_21 flX8_18 (Or.inl rfl) rfl hF (fun h3 hF => ?_)
    refine v_goto (pc := 24) 38 dX8_typed_24 rfl ?_
    exact v_ret (pc := 38) dX8_typed_38 rfl (okr hF fun q => q)
  replace hF := (okB_if hF).1 hc
  refine v_iload_n (pc := 7) (i := 1) dX8_typed_7 rfl rfl ?_
  refine cp_S (pc := 8) gI (as := [si a1]) (st := []) (N := mX0_isCapital) (k := 0) (n := 0) (k1 := 0) (n1 := 0) dX8_typed_8 lkX8_34 caX0_isCapital csX0_isCapital rfl (fun Q1 hq => tX0_isCapital a1 h Q1 hq) ⟨by decide, by decide⟩ (Nat.le_of_ble_eq_true rfl) rfl hF (fun x4 hF => ?_)
  show gV G mX8_typed 1 Q 11 [some (sr (some a0)), some (si a1)] [si x4] (0) (0) h
  refine v_if_eq (pc := 11) 27 dX8_typed_11 rfl (fun hc => ?_) (fun hc => ?_)
  · replace hF := (okB_if hF).1 hc
    refine v_iload_n (pc := 27) (i := 1) dX8_typed_27 rfl rfl ?_
    refine v_bipush (pc := 28) (v := (32 : Int32)) dX8_typed_28 rfl ?_
    refine v_icmp_ne (pc := 30) 38 dX8_typed_30 rfl (fun hc => ?_) (fun hc => ?_)
    · replace hF := (okB_if hF).2 hc
      exact v_ret (pc := 38) dX8_typed_38 rfl (okr hF fun q => q)
    replace hF := (okB_if hF).1 hc
    refine v_aload_n (pc := 33) (i := 0) dX8_typed_33 rfl rfl ?_
    refine v_iconst (pc := 34) (v := (0 : Int32)) dX8_typed_34 rfl ?_
    refine s_putZ (pc := 35) dX8_typed_35 flX8_18 (Or.inl rfl) rfl hF (fun h5 hF => ?_)
    exact v_ret (pc := 38) dX8_typed_38 rfl (okr hF fun q => q)
  replace hF := (okB_if hF).2 hc
  refine v_aload_n (pc := 14) (i := 0) dX8_typed_14 rfl rfl ?_
  refine v_iconst (pc := 15) (v := (0 : Int32)) dX8_typed_15 rfl ?_
  refine s_putZ (pc := 16) dX8_typed_16 flX8_15 (Or.inl rfl) rfl hF (fun h6 hF => ?_)
  refine v_aload_n (pc := 19) (i := 0) dX8_typed_19 rfl rfl ?_
  refine v_iconst (pc := 20) (v := (0 : Int32)) dX8_typed_20 rfl ?_
  refine s_putZ (pc := 21) dX8_typed_21 flX8_18 (Or.inl rfl) rfl hF (fun h7 hF => ?_)
  refine v_goto (pc := 24) 38 dX8_typed_24 rfl ?_
  exact v_ret (pc := 38) dX8_typed_38 rfl (okr hF fun q => q)
/-! BrailleDesk$Regions.<init> -/
theorem tX6_init {G : gG} (a0 : Nat) (a1 : (Option Nat)) (a2 : (Option Nat)) (h : hp) (Q : hQ) (hF : okB (fX6_init a0 a1 a2 h) (pH gU Q)) : gS G mX6_init 2 2 102 [sr (some a0), sr a1, sr a2] h Q := by
  delta fX6_init at hF
  refine gS_at [some (sr (some a0)), some (sr a1), some (sr a2)] pl_X6 rfl (Nat.le_of_ble_eq_true rfl) rfl ?_
  refine v_aload_n (pc := 0) (i := 0) dX6_init_0 rfl rfl ?_
  refine v_objI (pc := 1) dX6_init_1 lkX6_3 oi_c oi_d (Nat.le_of_ble_eq_true rfl) (by decide) ?_
  refine v_aload_n (pc := 4) (i := 0) dX6_init_4 rfl rfl ?_
  refine v_aload_n (pc := 5) (i := 1) dX6_init_5 rfl rfl ?_
  refine s_putR (pc := 6) dX6_init_6 flX6_9 (Or.inr ⟨rfl, rfl, rfl⟩) rfl hF (fun h1 hF => ?_)
  refine v_aload_n (pc := 9) (i := 0) dX6_init_9 rfl rfl ?_
  refine v_aload_n (pc := 10) (i := 2) dX6_init_10 rfl rfl ?_
  refine s_putR (pc := 11) dX6_init_11 flX6_15 (Or.inr ⟨rfl, rfl, rfl⟩) rfl hF (fun h2 hF => ?_)
  refine v_aload_n (pc := 14) (i := 0) dX6_init_14 rfl rfl ?_
  refine v_new (pc := 15) (ci := 0) (k := 1) (n := 100) dX6_init_15 (by decide) ccX6_19 ins_0 ini_0 ?_
  refine v_dup (pc := 18) dX6_init_18 rfl ?_
  refine v_bipush (pc := 19) (v := (80 : Int32)) dX6_init_19 rfl ?_
  refine ch_I (pc := 21) (as := [si (80 : Int32)]) (st := [sr (some (hN h2)), sr (some a0)]) (N := mX1_init) (k := 0) (n := 0) (k1 := 1) (n1 := 100) dX6_init_21 lkX6_21 caX1_init ciX1_init rfl rfl rfl (fun Q1 hq => tX1_init (hN h2) (80 : Int32) (wN h2 (1, 0)) Q1 hq) ⟨by decide, by decide⟩ (Nat.le_of_ble_eq_true rfl) rfl hF (fun x3 h4 hF => ?_)
  refine s_putR (pc := 24) dX6_init_24 flX6_24 (Or.inr ⟨rfl, rfl, rfl⟩) rfl hF (fun h5 hF => ?_)
  exact v_ret (pc := 27) dX6_init_27 rfl (okr hF fun q => q)
/-! BrailleDesk$Regions.mayTellAgain -/
theorem tX6_mayTellAgain {G : gG} (a0 : Nat) (a1 : (Option Nat)) (h : hp) (Q : hQ) (hF : okB (fX6_mayTellAgain a0 a1 h) (pP gI Q h)) : gS G mX6_mayTellAgain 0 0 0 [sr (some a0), sr a1] h Q := by
  delta fX6_mayTellAgain at hF
  refine gS_at [some (sr (some a0)), some (sr a1)] pl_X6 rfl (Nat.le_of_ble_eq_true rfl) rfl ?_
  refine v_aload_n (pc := 0) (i := 0) dX6_mayTellAgain_0 rfl rfl ?_
  refine s_getI (pc := 1) dX6_mayTellAgain_1 flX6_101 rfl hF (fun x1 hF => ?_)
  refine v_aload_n (pc := 4) (i := 1) dX6_mayTellAgain_4 rfl rfl ?_
  refine s_getI (pc := 5) dX6_mayTellAgain_5 flX6_104 rfl hF (fun x2 hF => ?_)
  refine v_isub (pc := 8) dX6_mayTellAgain_8 ?_
  refine v_iconst (pc := 9) (v := (5 : Int32)) dX6_mayTellAgain_9 rfl ?_
  refine v_icmp_lt (pc := 10) 17 dX6_mayTellAgain_10 rfl (fun hc => ?_) (fun hc => ?_)
  · replace hF := (okB_if hF).1 hc
    refine v_iconst (pc := 17) (v := (0 : Int32)) dX6_mayTellAgain_17 rfl ?_
    exact v_iret (pc := 18) dX6_mayTellAgain_18 rfl rfl (okr hF fun q => q)
  replace hF := (okB_if hF).2 hc
  refine v_iconst (pc := 13) (v := (1 : Int32)) dX6_mayTellAgain_13 rfl ?_
  refine v_goto (pc := 14) 18 dX6_mayTellAgain_14 rfl ?_
  exact v_iret (pc := 18) dX6_mayTellAgain_18 rfl rfl (okr hF fun q => q)
/-! BrailleDesk$Regions.tellNews -/
theorem tX6_tellNews {G : gG} (a0 : Nat) (a1 : (Option Nat)) (a2 : (Option Nat)) (h : hp) (Q : hQ) (hF : okB (fX6_tellNews a0 a1 a2 h) (pH gU Q)) : gS G mX6_tellNews 3 0 0 [sr (some a0), sr a1, sr a2] h Q := by
  delta fX6_tellNews at hF
  refine gS_at [some (sr (some a0)), some (sr a1), some (sr a2)] pl_X6 rfl (Nat.le_of_ble_eq_true rfl) rfl ?_
  refine v_aload_n (pc := 0) (i := 1) dX6_tellNews_0 rfl rfl ?_
  refine v_iconst (pc := 1) (v := (1 : Int32)) dX6_tellNews_1 rfl ?_
  refine s_putZ (pc := 2) dX6_tellNews_2 flX6_80 (Or.inl rfl) rfl hF (fun h1 hF => ?_)
  refine v_aload_n (pc := 5) (i := 1) dX6_tellNews_5 rfl rfl ?_
  refine v_aload_n (pc := 6) (i := 0) dX6_tellNews_6 rfl rfl ?_
  refine s_getI (pc := 7) dX6_tellNews_7 flX6_101 rfl hF (fun x2 hF => ?_)
  refine s_putI (pc := 10) dX6_tellNews_10 flX6_104 (Or.inl rfl) rfl hF (fun h3 hF => ?_)
  refine v_aload_n (pc := 13) (i := 0) dX6_tellNews_13 rfl rfl ?_
  refine s_getR (pc := 14) dX6_tellNews_14 flX6_15 rfl hF (fun x4 hF => ?_)
  refine v_aload_n (pc := 17) (i := 2) dX6_tellNews_17 rfl rfl ?_
  refine ch_V (pc := 18) gU (as := [sr a2]) (st := []) (ci := 8) (N := mX9_comeNews) (k := 0) (n := 0) (k1 := 0) (n1 := 0) dX6_tellNews_18 lkX6_107 caX9_comeNews cvX9_comeNews rfl (by decide) rfl (fun b Q1 hq => tX9_comeNews b a2 h3 Q1 hq) ⟨by decide, by decide⟩ (Nat.le_of_ble_eq_true rfl) rfl hF (fun x5 h6 hF => ?_)
  show gV G mX6_tellNews 3 Q 21 [some (sr (some a0)), some (sr a1), some (sr a2)] [] (0) (0) h6
  exact v_ret (pc := 21) dX6_tellNews_21 rfl (okr hF fun q => q)
/-! BrailleDesk$Regions.swallow -/
theorem tX6_swallow {G : gG} (a0 : Nat) (a1 : (Option Nat)) (h : hp) (Q : hQ) (hF : okB (fX6_swallow a0 a1 h) (pH gU Q)) : gS G mX6_swallow 1 0 0 [sr (some a0), sr a1] h Q := by
  delta fX6_swallow at hF
  refine gS_at [some (sr (some a0)), some (sr a1)] pl_X6 rfl (Nat.le_of_ble_eq_true rfl) rfl ?_
  refine v_aload_n (pc := 0) (i := 1) dX6_swallow_0 rfl rfl ?_
  refine s_getR (pc := 1) dX6_swallow_1 flX6_95 rfl hF (fun x1 hF => ?_)
  refine cp_V (pc := 4) gI (as := []) (st := []) (ci := 0) (N := mX1_size) (k := 0) (n := 0) (k1 := 0) (n1 := 0) dX6_swallow_4 lkX6_58 caX1_size cvX1_size rfl (by decide) rfl (fun b Q1 hq => tX1_size b h Q1 hq) ⟨by decide, by decide⟩ (Nat.le_of_ble_eq_true rfl) rfl hF (fun x2 hF => ?_)
  show gV G mX6_swallow 1 Q 7 [some (sr (some a0)), some (sr a1)] [si x2] (0) (0) h
  refine v_if_le (pc := 7) 27 dX6_swallow_7 rfl (fun hc => ?_) (fun hc => ?_)
  · replace hF := (okB_if hF).1 hc
    exact v_ret (pc := 27) dX6_swallow_27 rfl (okr hF fun q => q)
  replace hF := (okB_if hF).2 hc
  refine v_aload_n (pc := 10) (i := 1) dX6_swallow_10 rfl rfl ?_
  refine s_getR (pc := 11) dX6_swallow_11 flX6_95 rfl hF (fun x3 hF => ?_)
  refine ch_V (pc := 14) gU (as := []) (st := []) (ci := 0) (N := mX1_clear) (k := 0) (n := 0) (k1 := 0) (n1 := 0) dX6_swallow_14 lkX6_34 caX1_clear cvX1_clear rfl (by decide) rfl (fun b Q1 hq => tX1_clear b h Q1 hq) ⟨by decide, by decide⟩ (Nat.le_of_ble_eq_true rfl) rfl hF (fun x4 h5 hF => ?_)
  show gV G mX6_swallow 1 Q 17 [some (sr (some a0)), some (sr a1)] [] (0) (0) h5
  refine v_aload_n (pc := 17) (i := 0) dX6_swallow_17 rfl rfl ?_
  refine v_dup (pc := 18) dX6_swallow_18 rfl ?_
  refine s_getI (pc := 19) dX6_swallow_19 flX6_110 rfl hF (fun x6 hF => ?_)
  refine v_iconst (pc := 22) (v := (1 : Int32)) dX6_swallow_22 rfl ?_
  refine v_iadd (pc := 23) dX6_swallow_23 ?_
  refine s_putI (pc := 24) dX6_swallow_24 flX6_110 (Or.inl rfl) rfl hF (fun h7 hF => ?_)
  exact v_ret (pc := 27) dX6_swallow_27 rfl (okr hF fun q => q)
/-! BrailleDesk$Regions.tell -/
theorem tX6_tell {G : gG} (a0 : Nat) (a1 : (Option Nat)) (h : hp) (Q : hQ) (hF : okB (fX6_tell a0 a1 h) (pH gU Q)) : gS G mX6_tell 4 0 0 [sr (some a0), sr a1] h Q := by
  delta fX6_tell at hF
  refine gS_at [some (sr (some a0)), some (sr a1)] pl_X6 rfl (Nat.le_of_ble_eq_true rfl) rfl ?_
  refine v_aload_n (pc := 0) (i := 1) dX6_tell_0 rfl rfl ?_
  refine s_ifnull (pc := 1) 21 dX6_tell_1 rfl hF (fun hF => ?_) (fun hF => ?_)
  · exact v_ret (pc := 21) dX6_tell_21 rfl (okr hF fun q => q)
  refine v_aload_n (pc := 4) (i := 1) dX6_tell_4 rfl rfl ?_
  refine s_getI (pc := 5) dX6_tell_5 flX6_72 rfl hF (fun x1 hF => ?_)
  refine v_if_eq (pc := 8) 21 dX6_tell_8 rfl (fun hc => ?_) (fun hc => ?_)
  · replace hF := (okB_if hF).1 hc
    exact v_ret (pc := 21) dX6_tell_21 rfl (okr hF fun q => q)
  replace hF := (okB_if hF).2 hc
  refine v_aload_n (pc := 11) (i := 0) dX6_tell_11 rfl rfl ?_
  refine s_getR (pc := 12) dX6_tell_12 flX6_24 rfl hF (fun x2 hF => ?_)
  refine cp_V (pc := 15) gI (as := []) (st := []) (ci := 0) (N := mX1_size) (k := 0) (n := 0) (k1 := 0) (n1 := 0) dX6_tell_15 lkX6_58 caX1_size cvX1_size rfl (by decide) rfl (fun b Q1 hq => tX1_size b h Q1 hq) ⟨by decide, by decide⟩ (Nat.le_of_ble_eq_true rfl) rfl hF (fun x3 hF => ?_)
  show gV G mX6_tell 4 Q 18 [some (sr (some a0)), some (sr a1)] [si x3] (0) (0) h
  refine v_if_ne (pc := 18) 22 dX6_tell_18 rfl (fun hc => ?_) (fun hc => ?_)
  · replace hF := (okB_if hF).2 hc
    refine v_aload_n (pc := 22) (i := 1) dX6_tell_22 rfl rfl ?_
    refine s_getI (pc := 23) dX6_tell_23 flX6_72 rfl hF (fun x4 hF => ?_)
    refine v_iconst (pc := 26) (v := (2 : Int32)) dX6_tell_26 rfl ?_
    refine v_icmp_ne (pc := 27) 44 dX6_tell_27 rfl (fun hc => ?_) (fun hc => ?_)
    · replace hF := (okB_if hF).2 hc
      refine v_aload_n (pc := 44) (i := 1) dX6_tell_44 rfl rfl ?_
      refine s_getI (pc := 45) dX6_tell_45 flX6_80 rfl hF (fun x5 hF => ?_)
      refine v_if_eq (pc := 48) 59 dX6_tell_48 rfl (fun hc => ?_) (fun hc => ?_)
      · replace hF := (okB_if hF).1 hc
        refine v_aload_n (pc := 59) (i := 0) dX6_tell_59 rfl rfl ?_
        refine v_aload_n (pc := 60) (i := 1) dX6_tell_60 rfl rfl ?_
        refine v_aload_n (pc := 61) (i := 0) dX6_tell_61 rfl rfl ?_
        refine s_getR (pc := 62) dX6_tell_62 flX6_24 rfl hF (fun x6 hF => ?_)
        refine ch_V (pc := 65) gU (as := [sr a1, sr x6]) (st := []) (ci := 5) (N := mX6_tellNews) (k := 0) (n := 0) (k1 := 0) (n1 := 0) dX6_tell_65 lkX6_88 caX6_tellNews cvX6_tellNews rfl (by decide) rfl (fun b Q1 hq => tX6_tellNews b a1 x6 h Q1 hq) ⟨by decide, by decide⟩ (Nat.le_of_ble_eq_true rfl) rfl hF (fun x7 h8 hF => ?_)
        show gV G mX6_tell 4 Q 68 [some (sr (some a0)), some (sr a1)] [] (0) (0) h8
        refine v_goto (pc := 68) 87 dX6_tell_68 rfl ?_
        exact v_ret (pc := 87) dX6_tell_87 rfl (okr hF fun q => q)
      replace hF := (okB_if hF).2 hc
      refine v_aload_n (pc := 51) (i := 0) dX6_tell_51 rfl rfl ?_
      refine v_aload_n (pc := 52) (i := 1) dX6_tell_52 rfl rfl ?_
      refine cp_V (pc := 53) gI (as := [sr a1]) (st := []) (ci := 5) (N := mX6_mayTellAgain) (k := 0) (n := 0) (k1 := 0) (n1 := 0) dX6_tell_53 lkX6_84 caX6_mayTellAgain cvX6_mayTellAgain rfl (by decide) rfl (fun b Q1 hq => tX6_mayTellAgain b a1 h Q1 hq) ⟨by decide, by decide⟩ (Nat.le_of_ble_eq_true rfl) rfl hF (fun x9 hF => ?_)
      show gV G mX6_tell 4 Q 56 [some (sr (some a0)), some (sr a1)] [si x9] (0) (0) h
      refine v_if_eq (pc := 56) 71 dX6_tell_56 rfl (fun hc => ?_) (fun hc => ?_)
      · replace hF := (okB_if hF).1 hc
        refine v_aload_n (pc := 71) (i := 0) dX6_tell_71 rfl rfl ?_
        refine v_aload_n (pc := 72) (i := 1) dX6_tell_72 rfl rfl ?_
        refine ch_V (pc := 73) gU (as := [sr a1]) (st := []) (ci := 5) (N := mX6_swallow) (k := 0) (n := 0) (k1 := 0) (n1 := 0) dX6_tell_73 lkX6_92 caX6_swallow cvX6_swallow rfl (by decide) rfl (fun b Q1 hq => tX6_swallow b a1 h Q1 hq) ⟨by decide, by decide⟩ (Nat.le_of_ble_eq_true rfl) rfl hF (fun x10 h11 hF => ?_)
        show gV G mX6_tell 4 Q 76 [some (sr (some a0)), some (sr a1)] [] (0) (0) h11
        refine v_aload_n (pc := 76) (i := 1) dX6_tell_76 rfl rfl ?_
        refine s_getR (pc := 77) dX6_tell_77 flX6_95 rfl hF (fun x12 hF => ?_)
        refine v_aload_n (pc := 80) (i := 0) dX6_tell_80 rfl rfl ?_
        refine s_getR (pc := 81) dX6_tell_81 flX6_24 rfl hF (fun x13 hF => ?_)
        refine ch_V (pc := 84) gU (as := [sr x13]) (st := []) (ci := 0) (N := mX1_copy) (k := 0) (n := 0) (k1 := 0) (n1 := 0) dX6_tell_84 lkX6_98 caX1_copy cvX1_copy rfl (by decide) rfl (fun b Q1 hq => tX1_copy b x13 h11 Q1 hq) ⟨by decide, by decide⟩ (Nat.le_of_ble_eq_true rfl) rfl hF (fun x14 h15 hF => ?_)
        show gV G mX6_tell 4 Q 87 [some (sr (some a0)), some (sr a1)] [] (0) (0) h15
        exact v_ret (pc := 87) dX6_tell_87 rfl (okr hF fun q => q)
      replace hF := (okB_if hF).2 hc
      refine v_aload_n (pc := 59) (i := 0) dX6_tell_59 rfl rfl ?_
      refine v_aload_n (pc := 60) (i := 1) dX6_tell_60 rfl rfl ?_
      refine v_aload_n (pc := 61) (i := 0) dX6_tell_61 rfl rfl ?_
      refine s_getR (pc := 62) dX6_tell_62 flX6_24 rfl hF (fun x16 hF => ?_)
      refine ch_V (pc := 65) gU (as := [sr a1, sr x16]) (st := []) (ci := 5) (N := mX6_tellNews) (k := 0) (n := 0) (k1 := 0) (n1 := 0) dX6_tell_65 lkX6_88 caX6_tellNews cvX6_tellNews rfl (by decide) rfl (fun b Q1 hq => tX6_tellNews b a1 x16 h Q1 hq) ⟨by decide, by decide⟩ (Nat.le_of_ble_eq_true rfl) rfl hF (fun x17 h18 hF => ?_)
      show gV G mX6_tell 4 Q 68 [some (sr (some a0)), some (sr a1)] [] (0) (0) h18
      refine v_goto (pc := 68) 87 dX6_tell_68 rfl ?_
      exact v_ret (pc := 87) dX6_tell_87 rfl (okr hF fun q => q)
    replace hF := (okB_if hF).1 hc
    refine v_aload_n (pc := 30) (i := 0) dX6_tell_30 rfl rfl ?_
    refine s_getR (pc := 31) dX6_tell_31 flX6_15 rfl hF (fun x19 hF => ?_)
    refine v_aload_n (pc := 34) (i := 0) dX6_tell_34 rfl rfl ?_
    refine s_getR (pc := 35) dX6_tell_35 flX6_24 rfl hF (fun x20 hF => ?_)
    refine ch_V (pc := 38) gU (as := [sr x20]) (st := []) (ci := 8) (N := mX9_comeAlert) (k := 0) (n := 0) (k1 := 0) (n1 := 0) dX6_tell_38 lkX6_75 caX9_comeAlert cvX9_comeAlert rfl (by decide) rfl (fun b Q1 hq => tX9_comeAlert b x20 h Q1 hq) ⟨by decide, by decide⟩ (Nat.le_of_ble_eq_true rfl) rfl hF (fun x21 h22 hF => ?_)
    show gV G mX6_tell 4 Q 41 [some (sr (some a0)), some (sr a1)] [] (0) (0) h22
    refine v_goto (pc := 41) 87 dX6_tell_41 rfl ?_
    exact v_ret (pc := 87) dX6_tell_87 rfl (okr hF fun q => q)
  replace hF := (okB_if hF).1 hc
  exact v_ret (pc := 21) dX6_tell_21 rfl (okr hF fun q => q)
/-! BrailleDesk$Regions.tellWords -/
theorem tX6_tellWords {G : gG} (a0 : Nat) (a1 : (Option Nat)) (h : hp) (Q : hQ) (hF : okB (fX6_tellWords a0 a1 h) (pH gU Q)) : gS G mX6_tellWords 6 0 0 [sr (some a0), sr a1] h Q := by
  delta fX6_tellWords at hF
  refine gS_at [some (sr (some a0)), some (sr a1)] pl_X6 rfl (Nat.le_of_ble_eq_true rfl) rfl ?_
  refine v_aload_n (pc := 0) (i := 1) dX6_tellWords_0 rfl rfl ?_
  refine cp_V (pc := 1) gI (as := []) (st := []) (ci := 1) (N := mX2_isShownNow) (k := 0) (n := 0) (k1 := 0) (n1 := 0) dX6_tellWords_1 lkX6_28 caX2_isShownNow cvX2_isShownNow rfl (by decide) rfl (fun b Q1 hq => tX2_isShownNow b h Q1 hq) ⟨by decide, by decide⟩ (Nat.le_of_ble_eq_true rfl) rfl hF (fun x1 hF => ?_)
  show gV G mX6_tellWords 6 Q 4 [some (sr (some a0)), some (sr a1)] [si x1] (0) (0) h
  refine v_if_eq (pc := 4) 30 dX6_tellWords_4 rfl (fun hc => ?_) (fun hc => ?_)
  · replace hF := (okB_if hF).1 hc
    exact v_ret (pc := 30) dX6_tellWords_30 rfl (okr hF fun q => q)
  replace hF := (okB_if hF).2 hc
  refine v_aload_n (pc := 7) (i := 0) dX6_tellWords_7 rfl rfl ?_
  refine s_getR (pc := 8) dX6_tellWords_8 flX6_24 rfl hF (fun x2 hF => ?_)
  refine ch_V (pc := 11) gU (as := []) (st := []) (ci := 0) (N := mX1_clear) (k := 0) (n := 0) (k1 := 0) (n1 := 0) dX6_tellWords_11 lkX6_34 caX1_clear cvX1_clear rfl (by decide) rfl (fun b Q1 hq => tX1_clear b h Q1 hq) ⟨by decide, by decide⟩ (Nat.le_of_ble_eq_true rfl) rfl hF (fun x3 h4 hF => ?_)
  show gV G mX6_tellWords 6 Q 14 [some (sr (some a0)), some (sr a1)] [] (0) (0) h4
  refine v_aload_n (pc := 14) (i := 1) dX6_tellWords_14 rfl rfl ?_
  refine v_aload_n (pc := 15) (i := 0) dX6_tellWords_15 rfl rfl ?_
  refine s_getR (pc := 16) dX6_tellWords_16 flX6_24 rfl hF (fun x5 hF => ?_)
  refine ch_V (pc := 19) gU (as := [sr x5]) (st := []) (ci := 1) (N := mX2_putWords) (k := 0) (n := 0) (k1 := 0) (n1 := 0) dX6_tellWords_19 lkX6_37 caX2_putWords cvX2_putWords rfl (by decide) rfl (fun b Q1 hq => tX2_putWords b x5 h4 Q1 hq) ⟨by decide, by decide⟩ (Nat.le_of_ble_eq_true rfl) rfl hF (fun x6 h7 hF => ?_)
  show gV G mX6_tellWords 6 Q 22 [some (sr (some a0)), some (sr a1)] [] (0) (0) h7
  refine v_aload_n (pc := 22) (i := 0) dX6_tellWords_22 rfl rfl ?_
  refine v_aload_n (pc := 23) (i := 1) dX6_tellWords_23 rfl rfl ?_
  refine cp_V (pc := 24) gR (as := []) (st := [sr (some a0)]) (ci := 1) (N := mX2_region) (k := 0) (n := 0) (k1 := 0) (n1 := 0) dX6_tellWords_24 lkX6_41 caX2_region cvX2_region rfl (by decide) rfl (fun b Q1 hq => tX2_region b h7 Q1 hq) ⟨by decide, by decide⟩ (Nat.le_of_ble_eq_true rfl) rfl hF (fun x8 hF => ?_)
  show gV G mX6_tellWords 6 Q 27 [some (sr (some a0)), some (sr a1)] [sr x8, sr (some a0)] (0) (0) h7
  refine ch_V (pc := 27) gU (as := [sr x8]) (st := []) (ci := 5) (N := mX6_tell) (k := 0) (n := 0) (k1 := 0) (n1 := 0) dX6_tellWords_27 lkX6_45 caX6_tell cvX6_tell rfl (by decide) rfl (fun b Q1 hq => tX6_tell b x8 h7 Q1 hq) ⟨by decide, by decide⟩ (Nat.le_of_ble_eq_true rfl) rfl hF (fun x9 h10 hF => ?_)
  show gV G mX6_tellWords 6 Q 30 [some (sr (some a0)), some (sr a1)] [] (0) (0) h10
  exact v_ret (pc := 30) dX6_tellWords_30 rfl (okr hF fun q => q)
