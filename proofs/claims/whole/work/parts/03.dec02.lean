theorem dX7_keep_15 : decode cX7_keep 15 = .ok (.iload_n 1, 1) := by decide +kernel
theorem dX7_keep_16 : decode cX7_keep 16 = .ok (.putfield 15, 3) := by decide +kernel
theorem dX7_keep_19 : decode cX7_keep 19 = .ok (.iconst 1, 1) := by decide +kernel
theorem dX7_keep_20 : decode cX7_keep 20 = .ok (.ireturn, 1) := by decide +kernel
theorem dX7_byteAt_0 : decode cX7_byteAt 0 = .ok (.iload_n 1, 1) := by decide +kernel
theorem dX7_byteAt_1 : decode cX7_byteAt 1 = .ok (.ifCond .lt 29, 3) := by decide +kernel
theorem dX7_byteAt_4 : decode cX7_byteAt 4 = .ok (.iload_n 1, 1) := by decide +kernel
theorem dX7_byteAt_5 : decode cX7_byteAt 5 = .ok (.aload_n 0, 1) := by decide +kernel
theorem dX7_byteAt_6 : decode cX7_byteAt 6 = .ok (.getfield 15, 3) := by decide +kernel
theorem dX7_byteAt_9 : decode cX7_byteAt 9 = .ok (.if_icmp .ge 21, 3) := by decide +kernel
theorem dX7_byteAt_12 : decode cX7_byteAt 12 = .ok (.iload_n 1, 1) := by decide +kernel
theorem dX7_byteAt_13 : decode cX7_byteAt 13 = .ok (.aload_n 0, 1) := by decide +kernel
theorem dX7_byteAt_14 : decode cX7_byteAt 14 = .ok (.getfield 11, 3) := by decide +kernel
theorem dX7_byteAt_17 : decode cX7_byteAt 17 = .ok (.arraylength, 1) := by decide +kernel
theorem dX7_byteAt_18 : decode cX7_byteAt 18 = .ok (.if_icmp .ge 12, 3) := by decide +kernel
theorem dX7_byteAt_21 : decode cX7_byteAt 21 = .ok (.aload_n 0, 1) := by decide +kernel
theorem dX7_byteAt_22 : decode cX7_byteAt 22 = .ok (.getfield 11, 3) := by decide +kernel
theorem dX7_byteAt_25 : decode cX7_byteAt 25 = .ok (.iload_n 1, 1) := by decide +kernel
theorem dX7_byteAt_26 : decode cX7_byteAt 26 = .ok (.iaload, 1) := by decide +kernel
theorem dX7_byteAt_27 : decode cX7_byteAt 27 = .ok (.goto 4, 3) := by decide +kernel
theorem dX7_byteAt_30 : decode cX7_byteAt 30 = .ok (.iconst (-1), 1) := by decide +kernel
theorem dX7_byteAt_31 : decode cX7_byteAt 31 = .ok (.ireturn, 1) := by decide +kernel
theorem dX8_init_0 : decode cX8_init 0 = .ok (.aload_n 0, 1) := by decide +kernel
theorem dX8_init_1 : decode cX8_init 1 = .ok (.invokespecial 3, 3) := by decide +kernel
theorem dX8_init_4 : decode cX8_init 4 = .ok (.aload_n 0, 1) := by decide +kernel
theorem dX8_init_5 : decode cX8_init 5 = .ok (.sipush 601, 3) := by decide +kernel
theorem dX8_init_8 : decode cX8_init 8 = .ok (.newarray .int, 2) := by decide +kernel
theorem dX8_init_10 : decode cX8_init 10 = .ok (.putfield 11, 3) := by decide +kernel
theorem dX8_init_13 : decode cX8_init 13 = .ok (.aload_n 0, 1) := by decide +kernel
theorem dX8_init_14 : decode cX8_init 14 = .ok (.sipush 601, 3) := by decide +kernel
theorem dX8_init_17 : decode cX8_init 17 = .ok (.newarray .int, 2) := by decide +kernel
theorem dX8_init_19 : decode cX8_init 19 = .ok (.putfield 17, 3) := by decide +kernel
theorem dX8_init_22 : decode cX8_init 22 = .ok (.aload_n 0, 1) := by decide +kernel
theorem dX8_init_23 : decode cX8_init 23 = .ok (.iconst 0, 1) := by decide +kernel
theorem dX8_init_24 : decode cX8_init 24 = .ok (.putfield 20, 3) := by decide +kernel
theorem dX8_init_27 : decode cX8_init 27 = .ok (.return_, 1) := by decide +kernel
theorem dX8_split_0 : decode cX8_split 0 = .ok (.aload_n 0, 1) := by decide +kernel
theorem dX8_split_1 : decode cX8_split 1 = .ok (.iconst 0, 1) := by decide +kernel
theorem dX8_split_2 : decode cX8_split 2 = .ok (.putfield 20, 3) := by decide +kernel
theorem dX8_split_5 : decode cX8_split 5 = .ok (.iconst 0, 1) := by decide +kernel
theorem dX8_split_6 : decode cX8_split 6 = .ok (.istore_n 2, 1) := by decide +kernel
theorem dX8_split_7 : decode cX8_split 7 = .ok (.iload_n 2, 1) := by decide +kernel
theorem dX8_split_8 : decode cX8_split 8 = .ok (.aload_n 1, 1) := by decide +kernel
theorem dX8_split_9 : decode cX8_split 9 = .ok (.getfield 24, 3) := by decide +kernel
theorem dX8_split_12 : decode cX8_split 12 = .ok (.if_icmp .ge 42, 3) := by decide +kernel
theorem dX8_split_15 : decode cX8_split 15 = .ok (.aload_n 1, 1) := by decide +kernel
theorem dX8_split_16 : decode cX8_split 16 = .ok (.iload_n 2, 1) := by decide +kernel
theorem dX8_split_17 : decode cX8_split 17 = .ok (.invokestatic 27, 3) := by decide +kernel
theorem dX8_split_20 : decode cX8_split 20 = .ok (.iload_n 2, 1) := by decide +kernel
theorem dX8_split_21 : decode cX8_split 21 = .ok (.iconst 1, 1) := by decide +kernel
theorem dX8_split_22 : decode cX8_split 22 = .ok (.iadd, 1) := by decide +kernel
theorem dX8_split_23 : decode cX8_split 23 = .ok (.invokestatic 31, 3) := by decide +kernel
theorem dX8_split_26 : decode cX8_split 26 = .ok (.istore_n 3, 1) := by decide +kernel
theorem dX8_split_27 : decode cX8_split 27 = .ok (.aload_n 1, 1) := by decide +kernel
theorem dX8_split_28 : decode cX8_split 28 = .ok (.iload_n 2, 1) := by decide +kernel
theorem dX8_split_29 : decode cX8_split 29 = .ok (.invokevirtual 37, 3) := by decide +kernel
theorem dX8_split_32 : decode cX8_split 32 = .ok (.invokestatic 41, 3) := by decide +kernel
theorem dX8_split_35 : decode cX8_split 35 = .ok (.ifCond .ne 14, 3) := by decide +kernel
theorem dX8_split_38 : decode cX8_split 38 = .ok (.aload_n 0, 1) := by decide +kernel
theorem dX8_split_39 : decode cX8_split 39 = .ok (.aload_n 1, 1) := by decide +kernel
theorem dX8_split_40 : decode cX8_split 40 = .ok (.iload_n 2, 1) := by decide +kernel
theorem dX8_split_41 : decode cX8_split 41 = .ok (.iload_n 3, 1) := by decide +kernel
theorem dX8_split_42 : decode cX8_split 42 = .ok (.invokestatic 45, 3) := by decide +kernel
theorem dX8_split_45 : decode cX8_split 45 = .ok (.iload_n 2, 1) := by decide +kernel
theorem dX8_split_46 : decode cX8_split 46 = .ok (.invokevirtual 49, 3) := by decide +kernel
theorem dX8_split_49 : decode cX8_split 49 = .ok (.iload_n 3, 1) := by decide +kernel
theorem dX8_split_50 : decode cX8_split 50 = .ok (.istore_n 2, 1) := by decide +kernel
theorem dX8_split_51 : decode cX8_split 51 = .ok (.goto (-44), 3) := by decide +kernel
theorem dX8_split_54 : decode cX8_split 54 = .ok (.aload_n 0, 1) := by decide +kernel
theorem dX8_split_55 : decode cX8_split 55 = .ok (.bipush (-22), 2) := by decide +kernel
theorem dX8_split_57 : decode cX8_split 57 = .ok (.aload_n 1, 1) := by decide +kernel
theorem dX8_split_58 : decode cX8_split 58 = .ok (.getfield 24, 3) := by decide +kernel
theorem dX8_split_61 : decode cX8_split 61 = .ok (.invokevirtual 49, 3) := by decide +kernel
theorem dX8_split_64 : decode cX8_split 64 = .ok (.return_, 1) := by decide +kernel
theorem dX8_add_0 : decode cX8_add 0 = .ok (.aload_n 0, 1) := by decide +kernel
theorem dX8_add_1 : decode cX8_add 1 = .ok (.getfield 20, 3) := by decide +kernel
theorem dX8_add_4 : decode cX8_add 4 = .ok (.ifCond .lt 45, 3) := by decide +kernel
theorem dX8_add_7 : decode cX8_add 7 = .ok (.aload_n 0, 1) := by decide +kernel
theorem dX8_add_8 : decode cX8_add 8 = .ok (.getfield 20, 3) := by decide +kernel
theorem dX8_add_11 : decode cX8_add 11 = .ok (.aload_n 0, 1) := by decide +kernel
theorem dX8_add_12 : decode cX8_add 12 = .ok (.getfield 11, 3) := by decide +kernel
theorem dX8_add_15 : decode cX8_add 15 = .ok (.arraylength, 1) := by decide +kernel
theorem dX8_add_16 : decode cX8_add 16 = .ok (.if_icmp .ge 33, 3) := by decide +kernel
theorem dX8_add_19 : decode cX8_add 19 = .ok (.aload_n 0, 1) := by decide +kernel
theorem dX8_add_20 : decode cX8_add 20 = .ok (.getfield 11, 3) := by decide +kernel
theorem dX8_add_23 : decode cX8_add 23 = .ok (.aload_n 0, 1) := by decide +kernel
theorem dX8_add_24 : decode cX8_add 24 = .ok (.getfield 20, 3) := by decide +kernel
theorem dX8_add_27 : decode cX8_add 27 = .ok (.iload_n 1, 1) := by decide +kernel
theorem dX8_add_28 : decode cX8_add 28 = .ok (.iastore, 1) := by decide +kernel
theorem dX8_add_29 : decode cX8_add 29 = .ok (.aload_n 0, 1) := by decide +kernel
theorem dX8_add_30 : decode cX8_add 30 = .ok (.getfield 17, 3) := by decide +kernel
theorem dX8_add_33 : decode cX8_add 33 = .ok (.aload_n 0, 1) := by decide +kernel
theorem dX8_add_34 : decode cX8_add 34 = .ok (.getfield 20, 3) := by decide +kernel
theorem dX8_add_37 : decode cX8_add 37 = .ok (.iload_n 2, 1) := by decide +kernel
theorem dX8_add_38 : decode cX8_add 38 = .ok (.iastore, 1) := by decide +kernel
theorem dX8_add_39 : decode cX8_add 39 = .ok (.aload_n 0, 1) := by decide +kernel
theorem dX8_add_40 : decode cX8_add 40 = .ok (.dup, 1) := by decide +kernel
theorem dX8_add_41 : decode cX8_add 41 = .ok (.getfield 20, 3) := by decide +kernel
theorem dX8_add_44 : decode cX8_add 44 = .ok (.iconst 1, 1) := by decide +kernel
theorem dX8_add_45 : decode cX8_add 45 = .ok (.iadd, 1) := by decide +kernel
theorem dX8_add_46 : decode cX8_add 46 = .ok (.putfield 20, 3) := by decide +kernel
theorem dX8_add_49 : decode cX8_add 49 = .ok (.return_, 1) := by decide +kernel
theorem dX8_endAt_0 : decode cX8_endAt 0 = .ok (.iload_n 1, 1) := by decide +kernel
theorem dX8_endAt_1 : decode cX8_endAt 1 = .ok (.istore_n 2, 1) := by decide +kernel
theorem dX8_endAt_2 : decode cX8_endAt 2 = .ok (.aload_n 0, 1) := by decide +kernel
theorem dX8_endAt_3 : decode cX8_endAt 3 = .ok (.iload_n 2, 1) := by decide +kernel
theorem dX8_endAt_4 : decode cX8_endAt 4 = .ok (.invokevirtual 37, 3) := by decide +kernel
theorem dX8_endAt_7 : decode cX8_endAt 7 = .ok (.invokestatic 53, 3) := by decide +kernel
theorem dX8_endAt_10 : decode cX8_endAt 10 = .ok (.ifCond .eq 30, 3) := by decide +kernel
theorem dX8_endAt_13 : decode cX8_endAt 13 = .ok (.iload_n 2, 1) := by decide +kernel
theorem dX8_endAt_14 : decode cX8_endAt 14 = .ok (.aload_n 0, 1) := by decide +kernel
theorem dX8_endAt_15 : decode cX8_endAt 15 = .ok (.getfield 24, 3) := by decide +kernel
theorem dX8_endAt_18 : decode cX8_endAt 18 = .ok (.if_icmp .ge 20, 3) := by decide +kernel
theorem dX8_endAt_21 : decode cX8_endAt 21 = .ok (.aload_n 0, 1) := by decide +kernel
theorem dX8_endAt_22 : decode cX8_endAt 22 = .ok (.iload_n 2, 1) := by decide +kernel
theorem dX8_endAt_23 : decode cX8_endAt 23 = .ok (.invokevirtual 37, 3) := by decide +kernel
theorem dX8_endAt_26 : decode cX8_endAt 26 = .ok (.invokestatic 53, 3) := by decide +kernel
theorem dX8_endAt_29 : decode cX8_endAt 29 = .ok (.ifCond .eq 9, 3) := by decide +kernel
theorem dX8_endAt_32 : decode cX8_endAt 32 = .ok (.iinc 2 1, 3) := by decide +kernel
theorem dX8_endAt_35 : decode cX8_endAt 35 = .ok (.goto (-22), 3) := by decide +kernel
theorem dX8_endAt_38 : decode cX8_endAt 38 = .ok (.iload_n 2, 1) := by decide +kernel
theorem dX8_endAt_39 : decode cX8_endAt 39 = .ok (.ireturn, 1) := by decide +kernel
theorem dX8_endAt_40 : decode cX8_endAt 40 = .ok (.iload_n 2, 1) := by decide +kernel
theorem dX8_endAt_41 : decode cX8_endAt 41 = .ok (.aload_n 0, 1) := by decide +kernel
theorem dX8_endAt_42 : decode cX8_endAt 42 = .ok (.getfield 24, 3) := by decide +kernel
theorem dX8_endAt_45 : decode cX8_endAt 45 = .ok (.if_icmp .ge 20, 3) := by decide +kernel
theorem dX8_endAt_48 : decode cX8_endAt 48 = .ok (.aload_n 0, 1) := by decide +kernel
theorem dX8_endAt_49 : decode cX8_endAt 49 = .ok (.iload_n 2, 1) := by decide +kernel
theorem dX8_endAt_50 : decode cX8_endAt 50 = .ok (.invokevirtual 37, 3) := by decide +kernel
theorem dX8_endAt_53 : decode cX8_endAt 53 = .ok (.invokestatic 56, 3) := by decide +kernel
theorem dX8_endAt_56 : decode cX8_endAt 56 = .ok (.ifCond .eq 9, 3) := by decide +kernel
theorem dX8_endAt_59 : decode cX8_endAt 59 = .ok (.iinc 2 1, 3) := by decide +kernel
theorem dX8_endAt_62 : decode cX8_endAt 62 = .ok (.goto (-22), 3) := by decide +kernel
theorem dX8_endAt_65 : decode cX8_endAt 65 = .ok (.iload_n 2, 1) := by decide +kernel
theorem dX8_endAt_66 : decode cX8_endAt 66 = .ok (.ireturn, 1) := by decide +kernel
theorem dX8_kindAt_0 : decode cX8_kindAt 0 = .ok (.aload_n 0, 1) := by decide +kernel
theorem dX8_kindAt_1 : decode cX8_kindAt 1 = .ok (.iload_n 1, 1) := by decide +kernel
theorem dX8_kindAt_2 : decode cX8_kindAt 2 = .ok (.invokevirtual 37, 3) := by decide +kernel
theorem dX8_kindAt_5 : decode cX8_kindAt 5 = .ok (.istore_n 3, 1) := by decide +kernel
theorem dX8_kindAt_6 : decode cX8_kindAt 6 = .ok (.iload_n 3, 1) := by decide +kernel
theorem dX8_kindAt_7 : decode cX8_kindAt 7 = .ok (.invokestatic 53, 3) := by decide +kernel
theorem dX8_kindAt_10 : decode cX8_kindAt 10 = .ok (.ifCond .eq 10, 3) := by decide +kernel
theorem dX8_kindAt_13 : decode cX8_kindAt 13 = .ok (.aload_n 0, 1) := by decide +kernel
theorem dX8_kindAt_14 : decode cX8_kindAt 14 = .ok (.iload_n 1, 1) := by decide +kernel
theorem dX8_kindAt_15 : decode cX8_kindAt 15 = .ok (.iload_n 2, 1) := by decide +kernel
theorem dX8_kindAt_16 : decode cX8_kindAt 16 = .ok (.invokestatic 59, 3) := by decide +kernel
theorem dX8_kindAt_19 : decode cX8_kindAt 19 = .ok (.ireturn, 1) := by decide +kernel
theorem dX8_kindAt_20 : decode cX8_kindAt 20 = .ok (.iload_n 3, 1) := by decide +kernel
theorem dX8_kindAt_21 : decode cX8_kindAt 21 = .ok (.invokestatic 56, 3) := by decide +kernel
theorem dX8_kindAt_24 : decode cX8_kindAt 24 = .ok (.ifCond .eq 23, 3) := by decide +kernel
theorem dX8_kindAt_27 : decode cX8_kindAt 27 = .ok (.iload_n 2, 1) := by decide +kernel
theorem dX8_kindAt_28 : decode cX8_kindAt 28 = .ok (.iload_n 1, 1) := by decide +kernel
theorem dX8_kindAt_29 : decode cX8_kindAt 29 = .ok (.isub, 1) := by decide +kernel
theorem dX8_kindAt_30 : decode cX8_kindAt 30 = .ok (.bipush 8, 2) := by decide +kernel
theorem dX8_kindAt_32 : decode cX8_kindAt 32 = .ok (.if_icmp .le 8, 3) := by decide +kernel
theorem dX8_kindAt_35 : decode cX8_kindAt 35 = .ok (.bipush (-21), 2) := by decide +kernel
theorem dX8_kindAt_37 : decode cX8_kindAt 37 = .ok (.goto 9, 3) := by decide +kernel
theorem dX8_kindAt_40 : decode cX8_kindAt 40 = .ok (.aload_n 0, 1) := by decide +kernel
theorem dX8_kindAt_41 : decode cX8_kindAt 41 = .ok (.iload_n 1, 1) := by decide +kernel
theorem dX8_kindAt_42 : decode cX8_kindAt 42 = .ok (.iload_n 2, 1) := by decide +kernel
theorem dX8_kindAt_43 : decode cX8_kindAt 43 = .ok (.invokestatic 62, 3) := by decide +kernel
theorem dX8_kindAt_46 : decode cX8_kindAt 46 = .ok (.ireturn, 1) := by decide +kernel
theorem dX8_kindAt_47 : decode cX8_kindAt 47 = .ok (.iload_n 3, 1) := by decide +kernel
theorem dX8_kindAt_48 : decode cX8_kindAt 48 = .ok (.invokestatic 65, 3) := by decide +kernel
theorem dX8_kindAt_51 : decode cX8_kindAt 51 = .ok (.ireturn, 1) := by decide +kernel
theorem dX8_numberAt_0 : decode cX8_numberAt 0 = .ok (.iload_n 2, 1) := by decide +kernel
theorem dX8_numberAt_1 : decode cX8_numberAt 1 = .ok (.iload_n 1, 1) := by decide +kernel
theorem dX8_numberAt_2 : decode cX8_numberAt 2 = .ok (.isub, 1) := by decide +kernel
theorem dX8_numberAt_3 : decode cX8_numberAt 3 = .ok (.iconst 4, 1) := by decide +kernel
theorem dX8_numberAt_4 : decode cX8_numberAt 4 = .ok (.if_icmp .gt 14, 3) := by decide +kernel
theorem dX8_numberAt_7 : decode cX8_numberAt 7 = .ok (.aload_n 0, 1) := by decide +kernel
theorem dX8_numberAt_8 : decode cX8_numberAt 8 = .ok (.iload_n 2, 1) := by decide +kernel
theorem dX8_numberAt_9 : decode cX8_numberAt 9 = .ok (.invokevirtual 37, 3) := by decide +kernel
theorem dX8_numberAt_12 : decode cX8_numberAt 12 = .ok (.invokestatic 56, 3) := by decide +kernel
theorem dX8_numberAt_15 : decode cX8_numberAt 15 = .ok (.ifCond .eq 6, 3) := by decide +kernel
theorem dX8_numberAt_18 : decode cX8_numberAt 18 = .ok (.bipush (-21), 2) := by decide +kernel
theorem dX8_numberAt_20 : decode cX8_numberAt 20 = .ok (.ireturn, 1) := by decide +kernel
theorem dX8_numberAt_21 : decode cX8_numberAt 21 = .ok (.iconst 0, 1) := by decide +kernel
theorem dX8_numberAt_22 : decode cX8_numberAt 22 = .ok (.istore_n 3, 1) := by decide +kernel
theorem dX8_numberAt_23 : decode cX8_numberAt 23 = .ok (.iload_n 1, 1) := by decide +kernel
theorem dX8_numberAt_24 : decode cX8_numberAt 24 = .ok (.istore 4, 2) := by decide +kernel
theorem dX8_numberAt_26 : decode cX8_numberAt 26 = .ok (.iload 4, 2) := by decide +kernel
theorem dX8_numberAt_28 : decode cX8_numberAt 28 = .ok (.iload_n 2, 1) := by decide +kernel
theorem dX8_numberAt_29 : decode cX8_numberAt 29 = .ok (.if_icmp .ge 24, 3) := by decide +kernel
theorem dX8_numberAt_32 : decode cX8_numberAt 32 = .ok (.iload_n 3, 1) := by decide +kernel
theorem dX8_numberAt_33 : decode cX8_numberAt 33 = .ok (.bipush 10, 2) := by decide +kernel
theorem dX8_numberAt_35 : decode cX8_numberAt 35 = .ok (.imul, 1) := by decide +kernel
theorem dX8_numberAt_36 : decode cX8_numberAt 36 = .ok (.aload_n 0, 1) := by decide +kernel
theorem dX8_numberAt_37 : decode cX8_numberAt 37 = .ok (.iload 4, 2) := by decide +kernel
theorem dX8_numberAt_39 : decode cX8_numberAt 39 = .ok (.invokevirtual 37, 3) := by decide +kernel
theorem dX8_numberAt_42 : decode cX8_numberAt 42 = .ok (.iadd, 1) := by decide +kernel
theorem dX8_numberAt_43 : decode cX8_numberAt 43 = .ok (.bipush 48, 2) := by decide +kernel
theorem dX8_numberAt_45 : decode cX8_numberAt 45 = .ok (.isub, 1) := by decide +kernel
theorem dX8_numberAt_46 : decode cX8_numberAt 46 = .ok (.istore_n 3, 1) := by decide +kernel
theorem dX8_numberAt_47 : decode cX8_numberAt 47 = .ok (.iinc 4 1, 3) := by decide +kernel
theorem dX8_numberAt_50 : decode cX8_numberAt 50 = .ok (.goto (-24), 3) := by decide +kernel
theorem dX8_numberAt_53 : decode cX8_numberAt 53 = .ok (.iload_n 3, 1) := by decide +kernel
theorem dX8_numberAt_54 : decode cX8_numberAt 54 = .ok (.ireturn, 1) := by decide +kernel
theorem dX8_wordAt_0 : decode cX8_wordAt 0 = .ok (.aload_n 0, 1) := by decide +kernel
theorem dX8_wordAt_1 : decode cX8_wordAt 1 = .ok (.iload_n 1, 1) := by decide +kernel
theorem dX8_wordAt_2 : decode cX8_wordAt 2 = .ok (.iload_n 2, 1) := by decide +kernel
theorem dX8_wordAt_3 : decode cX8_wordAt 3 = .ok (.ldc 68, 2) := by decide +kernel
theorem dX8_wordAt_5 : decode cX8_wordAt 5 = .ok (.invokestatic 70, 3) := by decide +kernel
theorem dX8_wordAt_8 : decode cX8_wordAt 8 = .ok (.ifCond .eq 6, 3) := by decide +kernel
theorem dX8_wordAt_11 : decode cX8_wordAt 11 = .ok (.bipush (-17), 2) := by decide +kernel
theorem dX8_wordAt_13 : decode cX8_wordAt 13 = .ok (.ireturn, 1) := by decide +kernel
theorem dX8_wordAt_14 : decode cX8_wordAt 14 = .ok (.aload_n 0, 1) := by decide +kernel
theorem dX8_wordAt_15 : decode cX8_wordAt 15 = .ok (.iload_n 1, 1) := by decide +kernel
theorem dX8_wordAt_16 : decode cX8_wordAt 16 = .ok (.iload_n 2, 1) := by decide +kernel
theorem dX8_wordAt_17 : decode cX8_wordAt 17 = .ok (.ldc 74, 2) := by decide +kernel
theorem dX8_wordAt_19 : decode cX8_wordAt 19 = .ok (.invokestatic 70, 3) := by decide +kernel
theorem dX8_wordAt_22 : decode cX8_wordAt 22 = .ok (.ifCond .eq 6, 3) := by decide +kernel
theorem dX8_wordAt_25 : decode cX8_wordAt 25 = .ok (.bipush (-18), 2) := by decide +kernel
theorem dX8_wordAt_27 : decode cX8_wordAt 27 = .ok (.ireturn, 1) := by decide +kernel
theorem dX8_wordAt_28 : decode cX8_wordAt 28 = .ok (.aload_n 0, 1) := by decide +kernel
theorem dX8_wordAt_29 : decode cX8_wordAt 29 = .ok (.iload_n 1, 1) := by decide +kernel
theorem dX8_wordAt_30 : decode cX8_wordAt 30 = .ok (.iload_n 2, 1) := by decide +kernel
theorem dX8_wordAt_31 : decode cX8_wordAt 31 = .ok (.ldc 76, 2) := by decide +kernel
theorem dX8_wordAt_33 : decode cX8_wordAt 33 = .ok (.invokestatic 70, 3) := by decide +kernel
theorem dX8_wordAt_36 : decode cX8_wordAt 36 = .ok (.ifCond .eq 6, 3) := by decide +kernel
theorem dX8_wordAt_39 : decode cX8_wordAt 39 = .ok (.bipush (-19), 2) := by decide +kernel
theorem dX8_wordAt_41 : decode cX8_wordAt 41 = .ok (.ireturn, 1) := by decide +kernel
theorem dX8_wordAt_42 : decode cX8_wordAt 42 = .ok (.aload_n 0, 1) := by decide +kernel
theorem dX8_wordAt_43 : decode cX8_wordAt 43 = .ok (.iload_n 1, 1) := by decide +kernel
theorem dX8_wordAt_44 : decode cX8_wordAt 44 = .ok (.iload_n 2, 1) := by decide +kernel
theorem dX8_wordAt_45 : decode cX8_wordAt 45 = .ok (.ldc 78, 2) := by decide +kernel
theorem dX8_wordAt_47 : decode cX8_wordAt 47 = .ok (.invokestatic 70, 3) := by decide +kernel
theorem dX8_wordAt_50 : decode cX8_wordAt 50 = .ok (.ifCond .eq 6, 3) := by decide +kernel
theorem dX8_wordAt_53 : decode cX8_wordAt 53 = .ok (.bipush (-6), 2) := by decide +kernel
theorem dX8_wordAt_55 : decode cX8_wordAt 55 = .ok (.ireturn, 1) := by decide +kernel
theorem dX8_wordAt_56 : decode cX8_wordAt 56 = .ok (.aload_n 0, 1) := by decide +kernel
theorem dX8_wordAt_57 : decode cX8_wordAt 57 = .ok (.iload_n 1, 1) := by decide +kernel
theorem dX8_wordAt_58 : decode cX8_wordAt 58 = .ok (.iload_n 2, 1) := by decide +kernel
theorem dX8_wordAt_59 : decode cX8_wordAt 59 = .ok (.ldc 80, 2) := by decide +kernel
theorem dX8_wordAt_61 : decode cX8_wordAt 61 = .ok (.invokestatic 70, 3) := by decide +kernel
theorem dX8_wordAt_64 : decode cX8_wordAt 64 = .ok (.ifCond .eq 6, 3) := by decide +kernel
theorem dX8_wordAt_67 : decode cX8_wordAt 67 = .ok (.bipush (-7), 2) := by decide +kernel
theorem dX8_wordAt_69 : decode cX8_wordAt 69 = .ok (.ireturn, 1) := by decide +kernel
theorem dX8_wordAt_70 : decode cX8_wordAt 70 = .ok (.aload_n 0, 1) := by decide +kernel
theorem dX8_wordAt_71 : decode cX8_wordAt 71 = .ok (.iload_n 1, 1) := by decide +kernel
theorem dX8_wordAt_72 : decode cX8_wordAt 72 = .ok (.iload_n 2, 1) := by decide +kernel
theorem dX8_wordAt_73 : decode cX8_wordAt 73 = .ok (.ldc 82, 2) := by decide +kernel
theorem dX8_wordAt_75 : decode cX8_wordAt 75 = .ok (.invokestatic 70, 3) := by decide +kernel
theorem dX8_wordAt_78 : decode cX8_wordAt 78 = .ok (.ifCond .eq 8, 3) := by decide +kernel
theorem dX8_wordAt_81 : decode cX8_wordAt 81 = .ok (.bipush (-8), 2) := by decide +kernel
theorem dX8_wordAt_83 : decode cX8_wordAt 83 = .ok (.goto 9, 3) := by decide +kernel
theorem dX8_wordAt_86 : decode cX8_wordAt 86 = .ok (.aload_n 0, 1) := by decide +kernel
theorem dX8_wordAt_87 : decode cX8_wordAt 87 = .ok (.iload_n 1, 1) := by decide +kernel
theorem dX8_wordAt_88 : decode cX8_wordAt 88 = .ok (.iload_n 2, 1) := by decide +kernel
theorem dX8_wordAt_89 : decode cX8_wordAt 89 = .ok (.invokestatic 84, 3) := by decide +kernel
theorem dX8_wordAt_92 : decode cX8_wordAt 92 = .ok (.ireturn, 1) := by decide +kernel
theorem dX8_termAt_0 : decode cX8_termAt 0 = .ok (.aload_n 0, 1) := by decide +kernel
theorem dX8_termAt_1 : decode cX8_termAt 1 = .ok (.iload_n 1, 1) := by decide +kernel
theorem dX8_termAt_2 : decode cX8_termAt 2 = .ok (.iload_n 2, 1) := by decide +kernel
theorem dX8_termAt_3 : decode cX8_termAt 3 = .ok (.ldc 87, 2) := by decide +kernel
theorem dX8_termAt_5 : decode cX8_termAt 5 = .ok (.invokestatic 70, 3) := by decide +kernel
theorem dX8_termAt_8 : decode cX8_termAt 8 = .ok (.ifCond .eq 5, 3) := by decide +kernel
theorem dX8_termAt_11 : decode cX8_termAt 11 = .ok (.iconst (-1), 1) := by decide +kernel
theorem dX8_termAt_12 : decode cX8_termAt 12 = .ok (.ireturn, 1) := by decide +kernel
theorem dX8_termAt_13 : decode cX8_termAt 13 = .ok (.aload_n 0, 1) := by decide +kernel
theorem dX8_termAt_14 : decode cX8_termAt 14 = .ok (.iload_n 1, 1) := by decide +kernel
theorem dX8_termAt_15 : decode cX8_termAt 15 = .ok (.iload_n 2, 1) := by decide +kernel
theorem dX8_termAt_16 : decode cX8_termAt 16 = .ok (.ldc 89, 2) := by decide +kernel
theorem dX8_termAt_18 : decode cX8_termAt 18 = .ok (.invokestatic 70, 3) := by decide +kernel
theorem dX8_termAt_21 : decode cX8_termAt 21 = .ok (.ifCond .eq 6, 3) := by decide +kernel
theorem dX8_termAt_24 : decode cX8_termAt 24 = .ok (.bipush (-2), 2) := by decide +kernel
theorem dX8_termAt_26 : decode cX8_termAt 26 = .ok (.ireturn, 1) := by decide +kernel
theorem dX8_termAt_27 : decode cX8_termAt 27 = .ok (.aload_n 0, 1) := by decide +kernel
theorem dX8_termAt_28 : decode cX8_termAt 28 = .ok (.iload_n 1, 1) := by decide +kernel
theorem dX8_termAt_29 : decode cX8_termAt 29 = .ok (.iload_n 2, 1) := by decide +kernel
theorem dX8_termAt_30 : decode cX8_termAt 30 = .ok (.ldc 91, 2) := by decide +kernel
theorem dX8_termAt_32 : decode cX8_termAt 32 = .ok (.invokestatic 70, 3) := by decide +kernel
theorem dX8_termAt_35 : decode cX8_termAt 35 = .ok (.ifCond .eq 6, 3) := by decide +kernel
theorem dX8_termAt_38 : decode cX8_termAt 38 = .ok (.bipush (-3), 2) := by decide +kernel
theorem dX8_termAt_40 : decode cX8_termAt 40 = .ok (.ireturn, 1) := by decide +kernel
theorem dX8_termAt_41 : decode cX8_termAt 41 = .ok (.aload_n 0, 1) := by decide +kernel
theorem dX8_termAt_42 : decode cX8_termAt 42 = .ok (.iload_n 1, 1) := by decide +kernel
theorem dX8_termAt_43 : decode cX8_termAt 43 = .ok (.iload_n 2, 1) := by decide +kernel
theorem dX8_termAt_44 : decode cX8_termAt 44 = .ok (.ldc 93, 2) := by decide +kernel
theorem dX8_termAt_46 : decode cX8_termAt 46 = .ok (.invokestatic 70, 3) := by decide +kernel
theorem dX8_termAt_49 : decode cX8_termAt 49 = .ok (.ifCond .eq 6, 3) := by decide +kernel
theorem dX8_termAt_52 : decode cX8_termAt 52 = .ok (.bipush (-4), 2) := by decide +kernel
theorem dX8_termAt_54 : decode cX8_termAt 54 = .ok (.ireturn, 1) := by decide +kernel
theorem dX8_termAt_55 : decode cX8_termAt 55 = .ok (.aload_n 0, 1) := by decide +kernel
theorem dX8_termAt_56 : decode cX8_termAt 56 = .ok (.iload_n 1, 1) := by decide +kernel
theorem dX8_termAt_57 : decode cX8_termAt 57 = .ok (.iload_n 2, 1) := by decide +kernel
theorem dX8_termAt_58 : decode cX8_termAt 58 = .ok (.ldc 95, 2) := by decide +kernel
theorem dX8_termAt_60 : decode cX8_termAt 60 = .ok (.invokestatic 70, 3) := by decide +kernel
theorem dX8_termAt_63 : decode cX8_termAt 63 = .ok (.ifCond .eq 8, 3) := by decide +kernel
theorem dX8_termAt_66 : decode cX8_termAt 66 = .ok (.bipush (-5), 2) := by decide +kernel
theorem dX8_termAt_68 : decode cX8_termAt 68 = .ok (.goto 5, 3) := by decide +kernel
theorem dX8_termAt_71 : decode cX8_termAt 71 = .ok (.bipush (-20), 2) := by decide +kernel
theorem dX8_termAt_73 : decode cX8_termAt 73 = .ok (.ireturn, 1) := by decide +kernel
theorem dX8_isWord_0 : decode cX8_isWord 0 = .ok (.iload_n 2, 1) := by decide +kernel
theorem dX8_isWord_1 : decode cX8_isWord 1 = .ok (.iload_n 1, 1) := by decide +kernel
theorem dX8_isWord_2 : decode cX8_isWord 2 = .ok (.isub, 1) := by decide +kernel
theorem dX8_isWord_3 : decode cX8_isWord 3 = .ok (.aload_n 3, 1) := by decide +kernel
theorem dX8_isWord_4 : decode cX8_isWord 4 = .ok (.invokevirtual 97, 3) := by decide +kernel
theorem dX8_isWord_7 : decode cX8_isWord 7 = .ok (.if_icmp .eq 5, 3) := by decide +kernel
theorem dX8_isWord_10 : decode cX8_isWord 10 = .ok (.iconst 0, 1) := by decide +kernel
theorem dX8_isWord_11 : decode cX8_isWord 11 = .ok (.ireturn, 1) := by decide +kernel
theorem dX8_isWord_12 : decode cX8_isWord 12 = .ok (.iconst 0, 1) := by decide +kernel
theorem dX8_isWord_13 : decode cX8_isWord 13 = .ok (.istore 4, 2) := by decide +kernel
theorem dX8_isWord_15 : decode cX8_isWord 15 = .ok (.iload 4, 2) := by decide +kernel
theorem dX8_isWord_17 : decode cX8_isWord 17 = .ok (.aload_n 3, 1) := by decide +kernel
theorem dX8_isWord_18 : decode cX8_isWord 18 = .ok (.invokevirtual 97, 3) := by decide +kernel
theorem dX8_isWord_21 : decode cX8_isWord 21 = .ok (.if_icmp .ge 28, 3) := by decide +kernel
theorem dX8_isWord_24 : decode cX8_isWord 24 = .ok (.aload_n 0, 1) := by decide +kernel
theorem dX8_isWord_25 : decode cX8_isWord 25 = .ok (.iload_n 1, 1) := by decide +kernel
theorem dX8_isWord_26 : decode cX8_isWord 26 = .ok (.iload 4, 2) := by decide +kernel
theorem dX8_isWord_28 : decode cX8_isWord 28 = .ok (.iadd, 1) := by decide +kernel
theorem dX8_isWord_29 : decode cX8_isWord 29 = .ok (.invokevirtual 37, 3) := by decide +kernel
theorem dX8_isWord_32 : decode cX8_isWord 32 = .ok (.aload_n 3, 1) := by decide +kernel
theorem dX8_isWord_33 : decode cX8_isWord 33 = .ok (.iload 4, 2) := by decide +kernel
theorem dX8_isWord_35 : decode cX8_isWord 35 = .ok (.invokevirtual 102, 3) := by decide +kernel
theorem dX8_isWord_38 : decode cX8_isWord 38 = .ok (.if_icmp .eq 5, 3) := by decide +kernel
theorem dX8_isWord_41 : decode cX8_isWord 41 = .ok (.iconst 0, 1) := by decide +kernel
theorem dX8_isWord_42 : decode cX8_isWord 42 = .ok (.ireturn, 1) := by decide +kernel
theorem dX8_isWord_43 : decode cX8_isWord 43 = .ok (.iinc 4 1, 3) := by decide +kernel
theorem dX8_isWord_46 : decode cX8_isWord 46 = .ok (.goto (-31), 3) := by decide +kernel
theorem dX8_isWord_49 : decode cX8_isWord 49 = .ok (.iconst 1, 1) := by decide +kernel
theorem dX8_isWord_50 : decode cX8_isWord 50 = .ok (.ireturn, 1) := by decide +kernel
theorem dX8_signOf_0 : decode cX8_signOf 0 = .ok (.iload_n 0, 1) := by decide +kernel
theorem dX8_signOf_1 : decode cX8_signOf 1 = .ok (.tableswitch 131 40 62 #[110, 113, 131, 125, 131, 128, 131, 131, 131, 131, 131, 131, 131, 131, 131, 131, 131, 131, 131, 107, 116, 122, 119], 107) := by decide +kernel
theorem dX8_signOf_108 : decode cX8_signOf 108 = .ok (.bipush (-16), 2) := by decide +kernel
theorem dX8_signOf_110 : decode cX8_signOf 110 = .ok (.ireturn, 1) := by decide +kernel
theorem dX8_signOf_111 : decode cX8_signOf 111 = .ok (.bipush (-14), 2) := by decide +kernel
theorem dX8_signOf_113 : decode cX8_signOf 113 = .ok (.ireturn, 1) := by decide +kernel
theorem dX8_signOf_114 : decode cX8_signOf 114 = .ok (.bipush (-15), 2) := by decide +kernel
theorem dX8_signOf_116 : decode cX8_signOf 116 = .ok (.ireturn, 1) := by decide +kernel
theorem dX8_signOf_117 : decode cX8_signOf 117 = .ok (.bipush (-9), 2) := by decide +kernel
theorem dX8_signOf_119 : decode cX8_signOf 119 = .ok (.ireturn, 1) := by decide +kernel
theorem dX8_signOf_120 : decode cX8_signOf 120 = .ok (.bipush (-10), 2) := by decide +kernel
theorem dX8_signOf_122 : decode cX8_signOf 122 = .ok (.ireturn, 1) := by decide +kernel
theorem dX8_signOf_123 : decode cX8_signOf 123 = .ok (.bipush (-11), 2) := by decide +kernel
theorem dX8_signOf_125 : decode cX8_signOf 125 = .ok (.ireturn, 1) := by decide +kernel
theorem dX8_signOf_126 : decode cX8_signOf 126 = .ok (.bipush (-12), 2) := by decide +kernel
theorem dX8_signOf_128 : decode cX8_signOf 128 = .ok (.ireturn, 1) := by decide +kernel
theorem dX8_signOf_129 : decode cX8_signOf 129 = .ok (.bipush (-13), 2) := by decide +kernel
theorem dX8_signOf_131 : decode cX8_signOf 131 = .ok (.ireturn, 1) := by decide +kernel
theorem dX8_signOf_132 : decode cX8_signOf 132 = .ok (.bipush (-21), 2) := by decide +kernel
theorem dX8_signOf_134 : decode cX8_signOf 134 = .ok (.ireturn, 1) := by decide +kernel
theorem dX8_isBlank_0 : decode cX8_isBlank 0 = .ok (.iload_n 0, 1) := by decide +kernel
theorem dX8_isBlank_1 : decode cX8_isBlank 1 = .ok (.bipush 32, 2) := by decide +kernel
theorem dX8_isBlank_3 : decode cX8_isBlank 3 = .ok (.if_icmp .eq 9, 3) := by decide +kernel
theorem dX8_isBlank_6 : decode cX8_isBlank 6 = .ok (.iload_n 0, 1) := by decide +kernel
theorem dX8_isBlank_7 : decode cX8_isBlank 7 = .ok (.bipush 10, 2) := by decide +kernel
theorem dX8_isBlank_9 : decode cX8_isBlank 9 = .ok (.if_icmp .ne 7, 3) := by decide +kernel
theorem dX8_isBlank_12 : decode cX8_isBlank 12 = .ok (.iconst 1, 1) := by decide +kernel
theorem dX8_isBlank_13 : decode cX8_isBlank 13 = .ok (.goto 4, 3) := by decide +kernel
theorem dX8_isBlank_16 : decode cX8_isBlank 16 = .ok (.iconst 0, 1) := by decide +kernel
theorem dX8_isBlank_17 : decode cX8_isBlank 17 = .ok (.ireturn, 1) := by decide +kernel
theorem dX8_isLetter_0 : decode cX8_isLetter 0 = .ok (.iload_n 0, 1) := by decide +kernel
theorem dX8_isLetter_1 : decode cX8_isLetter 1 = .ok (.bipush 97, 2) := by decide +kernel
theorem dX8_isLetter_3 : decode cX8_isLetter 3 = .ok (.bipush 122, 2) := by decide +kernel
theorem dX8_isLetter_5 : decode cX8_isLetter 5 = .ok (.invokestatic 106, 3) := by decide +kernel
theorem dX8_isLetter_8 : decode cX8_isLetter 8 = .ok (.ireturn, 1) := by decide +kernel
theorem dX8_isDigit_0 : decode cX8_isDigit 0 = .ok (.iload_n 0, 1) := by decide +kernel
theorem dX8_isDigit_1 : decode cX8_isDigit 1 = .ok (.bipush 48, 2) := by decide +kernel
theorem dX8_isDigit_3 : decode cX8_isDigit 3 = .ok (.bipush 57, 2) := by decide +kernel
theorem dX8_isDigit_5 : decode cX8_isDigit 5 = .ok (.invokestatic 106, 3) := by decide +kernel
theorem dX8_isDigit_8 : decode cX8_isDigit 8 = .ok (.ireturn, 1) := by decide +kernel
theorem dX9_init_0 : decode cX9_init 0 = .ok (.aload_n 0, 1) := by decide +kernel
theorem dX9_init_1 : decode cX9_init 1 = .ok (.invokespecial 3, 3) := by decide +kernel
theorem dX9_init_4 : decode cX9_init 4 = .ok (.aload_n 0, 1) := by decide +kernel
theorem dX9_init_5 : decode cX9_init 5 = .ok (.bipush 6, 2) := by decide +kernel
theorem dX9_init_7 : decode cX9_init 7 = .ok (.newarray .int, 2) := by decide +kernel
theorem dX9_init_9 : decode cX9_init 9 = .ok (.putfield 11, 3) := by decide +kernel
theorem dX9_init_12 : decode cX9_init 12 = .ok (.aload_n 0, 1) := by decide +kernel
theorem dX9_init_13 : decode cX9_init 13 = .ok (.bipush 6, 2) := by decide +kernel
theorem dX9_init_15 : decode cX9_init 15 = .ok (.newarray .int, 2) := by decide +kernel
theorem dX9_init_17 : decode cX9_init 17 = .ok (.putfield 15, 3) := by decide +kernel
theorem dX9_init_20 : decode cX9_init 20 = .ok (.aload_n 0, 1) := by decide +kernel
theorem dX9_init_21 : decode cX9_init 21 = .ok (.bipush 6, 2) := by decide +kernel
theorem dX9_init_23 : decode cX9_init 23 = .ok (.newarray .int, 2) := by decide +kernel
theorem dX9_init_25 : decode cX9_init 25 = .ok (.putfield 18, 3) := by decide +kernel
theorem dX9_init_28 : decode cX9_init 28 = .ok (.aload_n 0, 1) := by decide +kernel
theorem dX9_init_29 : decode cX9_init 29 = .ok (.bipush 6, 2) := by decide +kernel
theorem dX9_init_31 : decode cX9_init 31 = .ok (.newarray .boolean, 2) := by decide +kernel
theorem dX9_init_33 : decode cX9_init 33 = .ok (.putfield 21, 3) := by decide +kernel
theorem dX9_init_36 : decode cX9_init 36 = .ok (.iconst 0, 1) := by decide +kernel
theorem dX9_init_37 : decode cX9_init 37 = .ok (.istore_n 1, 1) := by decide +kernel
theorem dX9_init_38 : decode cX9_init 38 = .ok (.iload_n 1, 1) := by decide +kernel
theorem dX9_init_39 : decode cX9_init 39 = .ok (.bipush 6, 2) := by decide +kernel
theorem dX9_init_41 : decode cX9_init 41 = .ok (.if_icmp .ge 38, 3) := by decide +kernel
theorem dX9_init_44 : decode cX9_init 44 = .ok (.aload_n 0, 1) := by decide +kernel
theorem dX9_init_45 : decode cX9_init 45 = .ok (.getfield 11, 3) := by decide +kernel
theorem dX9_init_48 : decode cX9_init 48 = .ok (.iload_n 1, 1) := by decide +kernel
theorem dX9_init_49 : decode cX9_init 49 = .ok (.bipush 10, 2) := by decide +kernel
theorem dX9_init_51 : decode cX9_init 51 = .ok (.iastore, 1) := by decide +kernel
theorem dX9_init_52 : decode cX9_init 52 = .ok (.aload_n 0, 1) := by decide +kernel
theorem dX9_init_53 : decode cX9_init 53 = .ok (.getfield 15, 3) := by decide +kernel
theorem dX9_init_56 : decode cX9_init 56 = .ok (.iload_n 1, 1) := by decide +kernel
theorem dX9_init_57 : decode cX9_init 57 = .ok (.iconst 0, 1) := by decide +kernel
theorem dX9_init_58 : decode cX9_init 58 = .ok (.iastore, 1) := by decide +kernel
theorem dX9_init_59 : decode cX9_init 59 = .ok (.aload_n 0, 1) := by decide +kernel
theorem dX9_init_60 : decode cX9_init 60 = .ok (.getfield 18, 3) := by decide +kernel
theorem dX9_init_63 : decode cX9_init 63 = .ok (.iload_n 1, 1) := by decide +kernel
theorem dX9_init_64 : decode cX9_init 64 = .ok (.iconst 1, 1) := by decide +kernel
theorem dX9_init_65 : decode cX9_init 65 = .ok (.iastore, 1) := by decide +kernel
theorem dX9_init_66 : decode cX9_init 66 = .ok (.aload_n 0, 1) := by decide +kernel
theorem dX9_init_67 : decode cX9_init 67 = .ok (.getfield 21, 3) := by decide +kernel
theorem dX9_init_70 : decode cX9_init 70 = .ok (.iload_n 1, 1) := by decide +kernel
theorem dX9_init_71 : decode cX9_init 71 = .ok (.iconst 1, 1) := by decide +kernel
theorem dX9_init_72 : decode cX9_init 72 = .ok (.bastore, 1) := by decide +kernel
theorem dX9_init_73 : decode cX9_init 73 = .ok (.iinc 1 1, 3) := by decide +kernel
theorem dX9_init_76 : decode cX9_init 76 = .ok (.goto (-38), 3) := by decide +kernel
theorem dX9_init_79 : decode cX9_init 79 = .ok (.return_, 1) := by decide +kernel
theorem dX9_set_0 : decode cX9_set 0 = .ok (.iload_n 1, 1) := by decide +kernel
theorem dX9_set_1 : decode cX9_set 1 = .ok (.ifCond .lt 9, 3) := by decide +kernel
theorem dX9_set_4 : decode cX9_set 4 = .ok (.iload_n 1, 1) := by decide +kernel
theorem dX9_set_5 : decode cX9_set 5 = .ok (.bipush 6, 2) := by decide +kernel
theorem dX9_set_7 : decode cX9_set 7 = .ok (.if_icmp .lt 4, 3) := by decide +kernel
theorem dX9_set_10 : decode cX9_set 10 = .ok (.return_, 1) := by decide +kernel
theorem dX9_set_11 : decode cX9_set 11 = .ok (.aload_n 0, 1) := by decide +kernel
theorem dX9_set_12 : decode cX9_set 12 = .ok (.getfield 11, 3) := by decide +kernel
theorem dX9_set_15 : decode cX9_set 15 = .ok (.iload_n 1, 1) := by decide +kernel
theorem dX9_set_16 : decode cX9_set 16 = .ok (.iload_n 2, 1) := by decide +kernel
theorem dX9_set_17 : decode cX9_set 17 = .ok (.iastore, 1) := by decide +kernel
theorem dX9_set_18 : decode cX9_set 18 = .ok (.aload_n 0, 1) := by decide +kernel
theorem dX9_set_19 : decode cX9_set 19 = .ok (.getfield 15, 3) := by decide +kernel
theorem dX9_set_22 : decode cX9_set 22 = .ok (.iload_n 1, 1) := by decide +kernel
theorem dX9_set_23 : decode cX9_set 23 = .ok (.iload_n 3, 1) := by decide +kernel
theorem dX9_set_24 : decode cX9_set 24 = .ok (.iastore, 1) := by decide +kernel
theorem dX9_set_25 : decode cX9_set 25 = .ok (.aload_n 0, 1) := by decide +kernel
theorem dX9_set_26 : decode cX9_set 26 = .ok (.getfield 18, 3) := by decide +kernel
theorem dX9_set_29 : decode cX9_set 29 = .ok (.iload_n 1, 1) := by decide +kernel
theorem dX9_set_30 : decode cX9_set 30 = .ok (.iload 4, 2) := by decide +kernel
theorem dX9_set_32 : decode cX9_set 32 = .ok (.iastore, 1) := by decide +kernel
theorem dX9_set_33 : decode cX9_set 33 = .ok (.aload_n 0, 1) := by decide +kernel
theorem dX9_set_34 : decode cX9_set 34 = .ok (.getfield 21, 3) := by decide +kernel
theorem dX9_set_37 : decode cX9_set 37 = .ok (.iload_n 1, 1) := by decide +kernel
theorem dX9_set_38 : decode cX9_set 38 = .ok (.iload 5, 2) := by decide +kernel
theorem dX9_set_40 : decode cX9_set 40 = .ok (.bastore, 1) := by decide +kernel
theorem dX9_set_41 : decode cX9_set 41 = .ok (.return_, 1) := by decide +kernel
theorem dX9_canBe_0 : decode cX9_canBe 0 = .ok (.iload_n 0, 1) := by decide +kernel
theorem dX9_canBe_1 : decode cX9_canBe 1 = .ok (.iconst 1, 1) := by decide +kernel
theorem dX9_canBe_2 : decode cX9_canBe 2 = .ok (.bipush 9, 2) := by decide +kernel
theorem dX9_canBe_4 : decode cX9_canBe 4 = .ok (.invokestatic 25, 3) := by decide +kernel
theorem dX9_canBe_7 : decode cX9_canBe 7 = .ok (.ifCond .eq 11, 3) := by decide +kernel
theorem dX9_canBe_10 : decode cX9_canBe 10 = .ok (.iload_n 1, 1) := by decide +kernel
theorem dX9_canBe_11 : decode cX9_canBe 11 = .ok (.iconst 3, 1) := by decide +kernel
theorem dX9_canBe_12 : decode cX9_canBe 12 = .ok (.iload_n 0, 1) := by decide +kernel
theorem dX9_canBe_13 : decode cX9_canBe 13 = .ok (.imul, 1) := by decide +kernel
theorem dX9_canBe_14 : decode cX9_canBe 14 = .ok (.iushr, 1) := by decide +kernel
theorem dX9_canBe_15 : decode cX9_canBe 15 = .ok (.ifCond .eq 5, 3) := by decide +kernel
theorem dX9_canBe_18 : decode cX9_canBe 18 = .ok (.iconst 0, 1) := by decide +kernel
theorem dX9_canBe_19 : decode cX9_canBe 19 = .ok (.ireturn, 1) := by decide +kernel
theorem dX9_canBe_20 : decode cX9_canBe 20 = .ok (.iconst 0, 1) := by decide +kernel
theorem dX9_canBe_21 : decode cX9_canBe 21 = .ok (.istore_n 2, 1) := by decide +kernel
theorem dX9_canBe_22 : decode cX9_canBe 22 = .ok (.iload_n 2, 1) := by decide +kernel
theorem dX9_canBe_23 : decode cX9_canBe 23 = .ok (.iload_n 0, 1) := by decide +kernel
theorem dX9_canBe_24 : decode cX9_canBe 24 = .ok (.if_icmp .ge 21, 3) := by decide +kernel
theorem dX9_canBe_27 : decode cX9_canBe 27 = .ok (.iload_n 1, 1) := by decide +kernel
theorem dX9_canBe_28 : decode cX9_canBe 28 = .ok (.iload_n 2, 1) := by decide +kernel
theorem dX9_canBe_29 : decode cX9_canBe 29 = .ok (.invokestatic 29, 3) := by decide +kernel
theorem dX9_canBe_32 : decode cX9_canBe 32 = .ok (.bipush 6, 2) := by decide +kernel
theorem dX9_canBe_34 : decode cX9_canBe 34 = .ok (.if_icmp .lt 5, 3) := by decide +kernel
theorem dX9_canBe_37 : decode cX9_canBe 37 = .ok (.iconst 0, 1) := by decide +kernel
theorem dX9_canBe_38 : decode cX9_canBe 38 = .ok (.ireturn, 1) := by decide +kernel
theorem dX9_canBe_39 : decode cX9_canBe 39 = .ok (.iinc 2 1, 3) := by decide +kernel
theorem dX9_canBe_42 : decode cX9_canBe 42 = .ok (.goto (-20), 3) := by decide +kernel
theorem dX9_canBe_45 : decode cX9_canBe 45 = .ok (.iconst 1, 1) := by decide +kernel
theorem dX9_canBe_46 : decode cX9_canBe 46 = .ok (.ireturn, 1) := by decide +kernel
theorem dX9_kindAt_0 : decode cX9_kindAt 0 = .ok (.iload_n 0, 1) := by decide +kernel
theorem dX9_kindAt_1 : decode cX9_kindAt 1 = .ok (.iconst 3, 1) := by decide +kernel
theorem dX9_kindAt_2 : decode cX9_kindAt 2 = .ok (.iload_n 1, 1) := by decide +kernel
theorem dX9_kindAt_3 : decode cX9_kindAt 3 = .ok (.imul, 1) := by decide +kernel
theorem dX9_kindAt_4 : decode cX9_kindAt 4 = .ok (.iushr, 1) := by decide +kernel
theorem dX9_kindAt_5 : decode cX9_kindAt 5 = .ok (.bipush 7, 2) := by decide +kernel
theorem dX9_kindAt_7 : decode cX9_kindAt 7 = .ok (.iand, 1) := by decide +kernel
theorem dX9_kindAt_8 : decode cX9_kindAt 8 = .ok (.ireturn, 1) := by decide +kernel
theorem dX9_ofKind_0 : decode cX9_ofKind 0 = .ok (.iload_n 1, 1) := by decide +kernel
theorem dX9_ofKind_1 : decode cX9_ofKind 1 = .ok (.ifCond .lt 15, 3) := by decide +kernel
theorem dX9_ofKind_4 : decode cX9_ofKind 4 = .ok (.iload_n 1, 1) := by decide +kernel
theorem dX9_ofKind_5 : decode cX9_ofKind 5 = .ok (.aload_n 0, 1) := by decide +kernel
theorem dX9_ofKind_6 : decode cX9_ofKind 6 = .ok (.arraylength, 1) := by decide +kernel
theorem dX9_ofKind_7 : decode cX9_ofKind 7 = .ok (.if_icmp .ge 9, 3) := by decide +kernel
theorem dX9_ofKind_10 : decode cX9_ofKind 10 = .ok (.aload_n 0, 1) := by decide +kernel
theorem dX9_ofKind_11 : decode cX9_ofKind 11 = .ok (.iload_n 1, 1) := by decide +kernel
theorem dX9_ofKind_12 : decode cX9_ofKind 12 = .ok (.iaload, 1) := by decide +kernel
theorem dX9_ofKind_13 : decode cX9_ofKind 13 = .ok (.goto 4, 3) := by decide +kernel
theorem dX9_ofKind_16 : decode cX9_ofKind 16 = .ok (.iconst 0, 1) := by decide +kernel
theorem dX9_ofKind_17 : decode cX9_ofKind 17 = .ok (.ireturn, 1) := by decide +kernel
theorem dX9_sumOf_0 : decode cX9_sumOf 0 = .ok (.iconst 0, 1) := by decide +kernel
theorem dX9_sumOf_1 : decode cX9_sumOf 1 = .ok (.istore_n 3, 1) := by decide +kernel
theorem dX9_sumOf_2 : decode cX9_sumOf 2 = .ok (.iconst 0, 1) := by decide +kernel
theorem dX9_sumOf_3 : decode cX9_sumOf 3 = .ok (.istore 4, 2) := by decide +kernel
theorem dX9_sumOf_5 : decode cX9_sumOf 5 = .ok (.iload 4, 2) := by decide +kernel
theorem dX9_sumOf_7 : decode cX9_sumOf 7 = .ok (.iload_n 1, 1) := by decide +kernel
theorem dX9_sumOf_8 : decode cX9_sumOf 8 = .ok (.if_icmp .ge 22, 3) := by decide +kernel
theorem dX9_sumOf_11 : decode cX9_sumOf 11 = .ok (.iload_n 3, 1) := by decide +kernel
theorem dX9_sumOf_12 : decode cX9_sumOf 12 = .ok (.aload_n 0, 1) := by decide +kernel
theorem dX9_sumOf_13 : decode cX9_sumOf 13 = .ok (.iload_n 2, 1) := by decide +kernel
theorem dX9_sumOf_14 : decode cX9_sumOf 14 = .ok (.iload 4, 2) := by decide +kernel
theorem dX9_sumOf_16 : decode cX9_sumOf 16 = .ok (.invokestatic 29, 3) := by decide +kernel
theorem dX9_sumOf_19 : decode cX9_sumOf 19 = .ok (.invokestatic 33, 3) := by decide +kernel
theorem dX9_sumOf_22 : decode cX9_sumOf 22 = .ok (.iadd, 1) := by decide +kernel
theorem dX9_sumOf_23 : decode cX9_sumOf 23 = .ok (.istore_n 3, 1) := by decide +kernel
theorem dX9_sumOf_24 : decode cX9_sumOf 24 = .ok (.iinc 4 1, 3) := by decide +kernel
theorem dX9_sumOf_27 : decode cX9_sumOf 27 = .ok (.goto (-22), 3) := by decide +kernel
theorem dX9_sumOf_30 : decode cX9_sumOf 30 = .ok (.iload_n 3, 1) := by decide +kernel
theorem dX9_sumOf_31 : decode cX9_sumOf 31 = .ok (.ireturn, 1) := by decide +kernel
theorem dX9_thinOf_0 : decode cX9_thinOf 0 = .ok (.aload_n 0, 1) := by decide +kernel
theorem dX9_thinOf_1 : decode cX9_thinOf 1 = .ok (.getfield 11, 3) := by decide +kernel
theorem dX9_thinOf_4 : decode cX9_thinOf 4 = .ok (.iload_n 1, 1) := by decide +kernel
theorem dX9_thinOf_5 : decode cX9_thinOf 5 = .ok (.iload_n 2, 1) := by decide +kernel
theorem dX9_thinOf_6 : decode cX9_thinOf 6 = .ok (.invokestatic 37, 3) := by decide +kernel
theorem dX9_thinOf_9 : decode cX9_thinOf 9 = .ok (.aload_n 0, 1) := by decide +kernel
theorem dX9_thinOf_10 : decode cX9_thinOf 10 = .ok (.getfield 15, 3) := by decide +kernel
theorem dX9_thinOf_13 : decode cX9_thinOf 13 = .ok (.iload_n 1, 1) := by decide +kernel
theorem dX9_thinOf_14 : decode cX9_thinOf 14 = .ok (.iload_n 2, 1) := by decide +kernel
theorem dX9_thinOf_15 : decode cX9_thinOf 15 = .ok (.invokestatic 37, 3) := by decide +kernel
theorem dX9_thinOf_18 : decode cX9_thinOf 18 = .ok (.isub, 1) := by decide +kernel
theorem dX9_thinOf_19 : decode cX9_thinOf 19 = .ok (.ireturn, 1) := by decide +kernel
theorem dX9_thickOf_0 : decode cX9_thickOf 0 = .ok (.aload_n 0, 1) := by decide +kernel
theorem dX9_thickOf_1 : decode cX9_thickOf 1 = .ok (.getfield 11, 3) := by decide +kernel
theorem dX9_thickOf_4 : decode cX9_thickOf 4 = .ok (.iload_n 1, 1) := by decide +kernel
theorem dX9_thickOf_5 : decode cX9_thickOf 5 = .ok (.iload_n 2, 1) := by decide +kernel
theorem dX9_thickOf_6 : decode cX9_thickOf 6 = .ok (.invokestatic 37, 3) := by decide +kernel
theorem dX9_thickOf_9 : decode cX9_thickOf 9 = .ok (.aload_n 0, 1) := by decide +kernel
theorem dX9_thickOf_10 : decode cX9_thickOf 10 = .ok (.getfield 15, 3) := by decide +kernel
theorem dX9_thickOf_13 : decode cX9_thickOf 13 = .ok (.iload_n 1, 1) := by decide +kernel
theorem dX9_thickOf_14 : decode cX9_thickOf 14 = .ok (.iload_n 2, 1) := by decide +kernel
theorem dX9_thickOf_15 : decode cX9_thickOf 15 = .ok (.invokestatic 37, 3) := by decide +kernel
theorem dX9_thickOf_18 : decode cX9_thickOf 18 = .ok (.iadd, 1) := by decide +kernel
theorem dX9_thickOf_19 : decode cX9_thickOf 19 = .ok (.ireturn, 1) := by decide +kernel
theorem dX9_priceOf_0 : decode cX9_priceOf 0 = .ok (.aload_n 0, 1) := by decide +kernel
theorem dX9_priceOf_1 : decode cX9_priceOf 1 = .ok (.getfield 18, 3) := by decide +kernel
theorem dX9_priceOf_4 : decode cX9_priceOf 4 = .ok (.iload_n 1, 1) := by decide +kernel
theorem dX9_priceOf_5 : decode cX9_priceOf 5 = .ok (.iload_n 2, 1) := by decide +kernel
theorem dX9_priceOf_6 : decode cX9_priceOf 6 = .ok (.invokestatic 37, 3) := by decide +kernel
theorem dX9_priceOf_9 : decode cX9_priceOf 9 = .ok (.ireturn, 1) := by decide +kernel
theorem dX9_warpOf_0 : decode cX9_warpOf 0 = .ok (.iconst 0, 1) := by decide +kernel
theorem dX9_warpOf_1 : decode cX9_warpOf 1 = .ok (.istore_n 3, 1) := by decide +kernel
theorem dX9_warpOf_2 : decode cX9_warpOf 2 = .ok (.aload_n 0, 1) := by decide +kernel
theorem dX9_warpOf_3 : decode cX9_warpOf 3 = .ok (.getfield 11, 3) := by decide +kernel
theorem dX9_warpOf_6 : decode cX9_warpOf 6 = .ok (.iload_n 1, 1) := by decide +kernel
theorem dX9_warpOf_7 : decode cX9_warpOf 7 = .ok (.iload_n 2, 1) := by decide +kernel
theorem dX9_warpOf_8 : decode cX9_warpOf 8 = .ok (.invokestatic 37, 3) := by decide +kernel
theorem dX9_warpOf_11 : decode cX9_warpOf 11 = .ok (.istore 4, 2) := by decide +kernel
theorem dX9_warpOf_13 : decode cX9_warpOf 13 = .ok (.iconst 0, 1) := by decide +kernel
theorem dX9_warpOf_14 : decode cX9_warpOf 14 = .ok (.istore 5, 2) := by decide +kernel
theorem dX9_warpOf_16 : decode cX9_warpOf 16 = .ok (.iconst 0, 1) := by decide +kernel
theorem dX9_warpOf_17 : decode cX9_warpOf 17 = .ok (.istore 6, 2) := by decide +kernel
theorem dX9_warpOf_19 : decode cX9_warpOf 19 = .ok (.iload 6, 2) := by decide +kernel
theorem dX9_warpOf_21 : decode cX9_warpOf 21 = .ok (.iload_n 1, 1) := by decide +kernel
theorem dX9_warpOf_22 : decode cX9_warpOf 22 = .ok (.if_icmp .ge 65, 3) := by decide +kernel
theorem dX9_warpOf_25 : decode cX9_warpOf 25 = .ok (.aload_n 0, 1) := by decide +kernel
theorem dX9_warpOf_26 : decode cX9_warpOf 26 = .ok (.getfield 11, 3) := by decide +kernel
theorem dX9_warpOf_29 : decode cX9_warpOf 29 = .ok (.iload_n 2, 1) := by decide +kernel
theorem dX9_warpOf_30 : decode cX9_warpOf 30 = .ok (.iload 6, 2) := by decide +kernel
theorem dX9_warpOf_32 : decode cX9_warpOf 32 = .ok (.invokestatic 29, 3) := by decide +kernel
theorem dX9_warpOf_35 : decode cX9_warpOf 35 = .ok (.invokestatic 33, 3) := by decide +kernel
theorem dX9_warpOf_38 : decode cX9_warpOf 38 = .ok (.istore 7, 2) := by decide +kernel
theorem dX9_warpOf_40 : decode cX9_warpOf 40 = .ok (.iload 4, 2) := by decide +kernel
theorem dX9_warpOf_42 : decode cX9_warpOf 42 = .ok (.iload 7, 2) := by decide +kernel
theorem dX9_warpOf_44 : decode cX9_warpOf 44 = .ok (.isub, 1) := by decide +kernel
theorem dX9_warpOf_45 : decode cX9_warpOf 45 = .ok (.istore 4, 2) := by decide +kernel
theorem dX9_warpOf_47 : decode cX9_warpOf 47 = .ok (.iload 7, 2) := by decide +kernel
theorem dX9_warpOf_49 : decode cX9_warpOf 49 = .ok (.iload_n 3, 1) := by decide +kernel
theorem dX9_warpOf_50 : decode cX9_warpOf 50 = .ok (.iload 4, 2) := by decide +kernel
theorem dX9_warpOf_52 : decode cX9_warpOf 52 = .ok (.isub, 1) := by decide +kernel
theorem dX9_warpOf_53 : decode cX9_warpOf 53 = .ok (.imul, 1) := by decide +kernel
theorem dX9_warpOf_54 : decode cX9_warpOf 54 = .ok (.istore 8, 2) := by decide +kernel
theorem dX9_warpOf_56 : decode cX9_warpOf 56 = .ok (.iload 5, 2) := by decide +kernel
theorem dX9_warpOf_58 : decode cX9_warpOf 58 = .ok (.iload 6, 2) := by decide +kernel
theorem dX9_warpOf_60 : decode cX9_warpOf 60 = .ok (.iconst 2, 1) := by decide +kernel
theorem dX9_warpOf_61 : decode cX9_warpOf 61 = .ok (.irem, 1) := by decide +kernel
theorem dX9_warpOf_62 : decode cX9_warpOf 62 = .ok (.ifCond .ne 8, 3) := by decide +kernel
theorem dX9_warpOf_65 : decode cX9_warpOf 65 = .ok (.iload 8, 2) := by decide +kernel
theorem dX9_warpOf_67 : decode cX9_warpOf 67 = .ok (.goto 6, 3) := by decide +kernel
theorem dX9_warpOf_70 : decode cX9_warpOf 70 = .ok (.iload 8, 2) := by decide +kernel
theorem dX9_warpOf_72 : decode cX9_warpOf 72 = .ok (.ineg, 1) := by decide +kernel
theorem dX9_warpOf_73 : decode cX9_warpOf 73 = .ok (.iadd, 1) := by decide +kernel
theorem dX9_warpOf_74 : decode cX9_warpOf 74 = .ok (.istore 5, 2) := by decide +kernel
theorem dX9_warpOf_76 : decode cX9_warpOf 76 = .ok (.iload_n 3, 1) := by decide +kernel
theorem dX9_warpOf_77 : decode cX9_warpOf 77 = .ok (.iload 7, 2) := by decide +kernel
theorem dX9_warpOf_79 : decode cX9_warpOf 79 = .ok (.iadd, 1) := by decide +kernel
theorem dX9_warpOf_80 : decode cX9_warpOf 80 = .ok (.istore_n 3, 1) := by decide +kernel
theorem dX9_warpOf_81 : decode cX9_warpOf 81 = .ok (.iinc 6 1, 3) := by decide +kernel
theorem dX9_warpOf_84 : decode cX9_warpOf 84 = .ok (.goto (-65), 3) := by decide +kernel
theorem dX9_warpOf_87 : decode cX9_warpOf 87 = .ok (.iload 5, 2) := by decide +kernel
theorem dX9_warpOf_89 : decode cX9_warpOf 89 = .ok (.ireturn, 1) := by decide +kernel
theorem dX9_cheapest_0 : decode cX9_cheapest 0 = .ok (.aload_n 0, 1) := by decide +kernel
theorem dX9_cheapest_1 : decode cX9_cheapest 1 = .ok (.iload_n 1, 1) := by decide +kernel
theorem dX9_cheapest_2 : decode cX9_cheapest 2 = .ok (.putfield 41, 3) := by decide +kernel
theorem dX9_cheapest_5 : decode cX9_cheapest 5 = .ok (.aload_n 0, 1) := by decide +kernel
theorem dX9_cheapest_6 : decode cX9_cheapest 6 = .ok (.iload_n 2, 1) := by decide +kernel
theorem dX9_cheapest_7 : decode cX9_cheapest 7 = .ok (.putfield 45, 3) := by decide +kernel
theorem dX9_cheapest_10 : decode cX9_cheapest 10 = .ok (.aload_n 0, 1) := by decide +kernel
theorem dX9_cheapest_11 : decode cX9_cheapest 11 = .ok (.iload_n 3, 1) := by decide +kernel
theorem dX9_cheapest_12 : decode cX9_cheapest 12 = .ok (.putfield 48, 3) := by decide +kernel
theorem dX9_cheapest_15 : decode cX9_cheapest 15 = .ok (.aload_n 0, 1) := by decide +kernel
theorem dX9_cheapest_16 : decode cX9_cheapest 16 = .ok (.sipush 9001, 3) := by decide +kernel
theorem dX9_cheapest_19 : decode cX9_cheapest 19 = .ok (.putfield 51, 3) := by decide +kernel
theorem dX9_cheapest_22 : decode cX9_cheapest 22 = .ok (.aload_n 0, 1) := by decide +kernel
theorem dX9_cheapest_23 : decode cX9_cheapest 23 = .ok (.iconst (-1), 1) := by decide +kernel
theorem dX9_cheapest_24 : decode cX9_cheapest 24 = .ok (.putfield 54, 3) := by decide +kernel
theorem dX9_cheapest_27 : decode cX9_cheapest 27 = .ok (.aload_n 0, 1) := by decide +kernel
theorem dX9_cheapest_28 : decode cX9_cheapest 28 = .ok (.iconst 0, 1) := by decide +kernel
theorem dX9_cheapest_29 : decode cX9_cheapest 29 = .ok (.iconst 0, 1) := by decide +kernel
theorem dX9_cheapest_30 : decode cX9_cheapest 30 = .ok (.iconst 0, 1) := by decide +kernel
theorem dX9_cheapest_31 : decode cX9_cheapest 31 = .ok (.iconst 0, 1) := by decide +kernel
theorem dX9_cheapest_32 : decode cX9_cheapest 32 = .ok (.iconst 0, 1) := by decide +kernel
theorem dX9_cheapest_33 : decode cX9_cheapest 33 = .ok (.invokevirtual 57, 3) := by decide +kernel
theorem dX9_cheapest_36 : decode cX9_cheapest 36 = .ok (.aload_n 0, 1) := by decide +kernel
theorem dX9_cheapest_37 : decode cX9_cheapest 37 = .ok (.getfield 54, 3) := by decide +kernel
theorem dX9_cheapest_40 : decode cX9_cheapest 40 = .ok (.ireturn, 1) := by decide +kernel
theorem dX9_lay_0 : decode cX9_lay 0 = .ok (.iload 4, 2) := by decide +kernel
theorem dX9_lay_2 : decode cX9_lay 2 = .ok (.aload_n 0, 1) := by decide +kernel
theorem dX9_lay_3 : decode cX9_lay 3 = .ok (.getfield 51, 3) := by decide +kernel
theorem dX9_lay_6 : decode cX9_lay 6 = .ok (.if_icmp .ge 11, 3) := by decide +kernel
theorem dX9_lay_9 : decode cX9_lay 9 = .ok (.iload_n 3, 1) := by decide +kernel
theorem dX9_lay_10 : decode cX9_lay 10 = .ok (.aload_n 0, 1) := by decide +kernel
theorem dX9_lay_11 : decode cX9_lay 11 = .ok (.getfield 48, 3) := by decide +kernel
theorem dX9_lay_14 : decode cX9_lay 14 = .ok (.if_icmp .le 4, 3) := by decide +kernel
theorem dX9_lay_17 : decode cX9_lay 17 = .ok (.return_, 1) := by decide +kernel
theorem dX9_lay_18 : decode cX9_lay 18 = .ok (.aload_n 0, 1) := by decide +kernel
theorem dX9_lay_19 : decode cX9_lay 19 = .ok (.getfield 41, 3) := by decide +kernel
theorem dX9_lay_22 : decode cX9_lay 22 = .ok (.iconst 2, 1) := by decide +kernel
theorem dX9_lay_23 : decode cX9_lay 23 = .ok (.idiv, 1) := by decide +kernel
theorem dX9_lay_24 : decode cX9_lay 24 = .ok (.istore 6, 2) := by decide +kernel
theorem dX9_lay_26 : decode cX9_lay 26 = .ok (.iload_n 1, 1) := by decide +kernel
theorem dX9_lay_27 : decode cX9_lay 27 = .ok (.iload 6, 2) := by decide +kernel
theorem dX9_lay_29 : decode cX9_lay 29 = .ok (.if_icmp .gt 9, 3) := by decide +kernel
theorem dX9_lay_32 : decode cX9_lay 32 = .ok (.iload_n 1, 1) := by decide +kernel
theorem dX9_lay_33 : decode cX9_lay 33 = .ok (.bipush 9, 2) := by decide +kernel
theorem dX9_lay_35 : decode cX9_lay 35 = .ok (.if_icmp .lt 24, 3) := by decide +kernel
theorem dX9_lay_38 : decode cX9_lay 38 = .ok (.iload_n 2, 1) := by decide +kernel
theorem dX9_lay_39 : decode cX9_lay 39 = .ok (.aload_n 0, 1) := by decide +kernel
theorem dX9_lay_40 : decode cX9_lay 40 = .ok (.getfield 45, 3) := by decide +kernel
theorem dX9_lay_43 : decode cX9_lay 43 = .ok (.if_icmp .lt 15, 3) := by decide +kernel
theorem dX9_lay_46 : decode cX9_lay 46 = .ok (.aload_n 0, 1) := by decide +kernel
theorem dX9_lay_47 : decode cX9_lay 47 = .ok (.iload 4, 2) := by decide +kernel
theorem dX9_lay_49 : decode cX9_lay 49 = .ok (.putfield 51, 3) := by decide +kernel
theorem dX9_lay_52 : decode cX9_lay 52 = .ok (.aload_n 0, 1) := by decide +kernel
theorem dX9_lay_53 : decode cX9_lay 53 = .ok (.iload 5, 2) := by decide +kernel
theorem dX9_lay_55 : decode cX9_lay 55 = .ok (.putfield 54, 3) := by decide +kernel
theorem dX9_lay_58 : decode cX9_lay 58 = .ok (.return_, 1) := by decide +kernel
theorem dX9_lay_59 : decode cX9_lay 59 = .ok (.iload_n 1, 1) := by decide +kernel
theorem dX9_lay_60 : decode cX9_lay 60 = .ok (.iload 6, 2) := by decide +kernel
theorem dX9_lay_62 : decode cX9_lay 62 = .ok (.if_icmp .ne 7, 3) := by decide +kernel
theorem dX9_lay_65 : decode cX9_lay 65 = .ok (.iconst 1, 1) := by decide +kernel
theorem dX9_lay_66 : decode cX9_lay 66 = .ok (.goto 4, 3) := by decide +kernel
theorem dX9_lay_69 : decode cX9_lay 69 = .ok (.iconst 2, 1) := by decide +kernel
theorem dX9_lay_70 : decode cX9_lay 70 = .ok (.istore 7, 2) := by decide +kernel
theorem dX9_lay_72 : decode cX9_lay 72 = .ok (.iconst 0, 1) := by decide +kernel
theorem dX9_lay_73 : decode cX9_lay 73 = .ok (.istore 8, 2) := by decide +kernel
theorem dX9_lay_75 : decode cX9_lay 75 = .ok (.iload 8, 2) := by decide +kernel
theorem dX9_lay_77 : decode cX9_lay 77 = .ok (.bipush 6, 2) := by decide +kernel
theorem dX9_lay_79 : decode cX9_lay 79 = .ok (.if_icmp .ge 121, 3) := by decide +kernel
theorem dX9_lay_82 : decode cX9_lay 82 = .ok (.iload_n 1, 1) := by decide +kernel
theorem dX9_lay_83 : decode cX9_lay 83 = .ok (.ifCond .ne 16, 3) := by decide +kernel
theorem dX9_lay_86 : decode cX9_lay 86 = .ok (.aload_n 0, 1) := by decide +kernel
theorem dX9_lay_87 : decode cX9_lay 87 = .ok (.getfield 21, 3) := by decide +kernel
theorem dX9_lay_90 : decode cX9_lay 90 = .ok (.iload 8, 2) := by decide +kernel
theorem dX9_lay_92 : decode cX9_lay 92 = .ok (.baload, 1) := by decide +kernel
theorem dX9_lay_93 : decode cX9_lay 93 = .ok (.ifCond .ne 6, 3) := by decide +kernel
theorem dX9_lay_96 : decode cX9_lay 96 = .ok (.goto 98, 3) := by decide +kernel
theorem dX9_lay_99 : decode cX9_lay 99 = .ok (.iload 5, 2) := by decide +kernel
theorem dX9_lay_101 : decode cX9_lay 101 = .ok (.iload 8, 2) := by decide +kernel
theorem dX9_lay_103 : decode cX9_lay 103 = .ok (.iconst 3, 1) := by decide +kernel
theorem dX9_lay_104 : decode cX9_lay 104 = .ok (.iload_n 1, 1) := by decide +kernel
theorem dX9_lay_105 : decode cX9_lay 105 = .ok (.imul, 1) := by decide +kernel
theorem dX9_lay_106 : decode cX9_lay 106 = .ok (.ishl, 1) := by decide +kernel
theorem dX9_lay_107 : decode cX9_lay 107 = .ok (.ior, 1) := by decide +kernel
theorem dX9_lay_108 : decode cX9_lay 108 = .ok (.iload 8, 2) := by decide +kernel
theorem dX9_lay_110 : decode cX9_lay 110 = .ok (.iconst 3, 1) := by decide +kernel
theorem dX9_lay_111 : decode cX9_lay 111 = .ok (.aload_n 0, 1) := by decide +kernel
theorem dX9_lay_112 : decode cX9_lay 112 = .ok (.getfield 41, 3) := by decide +kernel
theorem dX9_lay_115 : decode cX9_lay 115 = .ok (.iconst 1, 1) := by decide +kernel
theorem dX9_lay_116 : decode cX9_lay 116 = .ok (.isub, 1) := by decide +kernel
theorem dX9_lay_117 : decode cX9_lay 117 = .ok (.iload_n 1, 1) := by decide +kernel
theorem dX9_lay_118 : decode cX9_lay 118 = .ok (.isub, 1) := by decide +kernel
theorem dX9_lay_119 : decode cX9_lay 119 = .ok (.imul, 1) := by decide +kernel
theorem dX9_lay_120 : decode cX9_lay 120 = .ok (.ishl, 1) := by decide +kernel
theorem dX9_lay_121 : decode cX9_lay 121 = .ok (.ior, 1) := by decide +kernel
theorem dX9_lay_122 : decode cX9_lay 122 = .ok (.istore 9, 2) := by decide +kernel
theorem dX9_lay_124 : decode cX9_lay 124 = .ok (.iload_n 2, 1) := by decide +kernel
theorem dX9_lay_125 : decode cX9_lay 125 = .ok (.iload 7, 2) := by decide +kernel
theorem dX9_lay_127 : decode cX9_lay 127 = .ok (.aload_n 0, 1) := by decide +kernel
theorem dX9_lay_128 : decode cX9_lay 128 = .ok (.getfield 11, 3) := by decide +kernel
theorem dX9_lay_131 : decode cX9_lay 131 = .ok (.iload 8, 2) := by decide +kernel
theorem dX9_lay_133 : decode cX9_lay 133 = .ok (.iaload, 1) := by decide +kernel
theorem dX9_lay_134 : decode cX9_lay 134 = .ok (.aload_n 0, 1) := by decide +kernel
theorem dX9_lay_135 : decode cX9_lay 135 = .ok (.getfield 15, 3) := by decide +kernel
theorem dX9_lay_138 : decode cX9_lay 138 = .ok (.iload 8, 2) := by decide +kernel
theorem dX9_lay_140 : decode cX9_lay 140 = .ok (.iaload, 1) := by decide +kernel
theorem dX9_lay_141 : decode cX9_lay 141 = .ok (.isub, 1) := by decide +kernel
theorem dX9_lay_142 : decode cX9_lay 142 = .ok (.imul, 1) := by decide +kernel
theorem dX9_lay_143 : decode cX9_lay 143 = .ok (.iadd, 1) := by decide +kernel
theorem dX9_lay_144 : decode cX9_lay 144 = .ok (.istore 10, 2) := by decide +kernel
theorem dX9_lay_146 : decode cX9_lay 146 = .ok (.iload_n 3, 1) := by decide +kernel
theorem dX9_lay_147 : decode cX9_lay 147 = .ok (.iload 7, 2) := by decide +kernel
theorem dX9_lay_149 : decode cX9_lay 149 = .ok (.aload_n 0, 1) := by decide +kernel
theorem dX9_lay_150 : decode cX9_lay 150 = .ok (.getfield 11, 3) := by decide +kernel
theorem dX9_lay_153 : decode cX9_lay 153 = .ok (.iload 8, 2) := by decide +kernel
theorem dX9_lay_155 : decode cX9_lay 155 = .ok (.iaload, 1) := by decide +kernel
theorem dX9_lay_156 : decode cX9_lay 156 = .ok (.aload_n 0, 1) := by decide +kernel
theorem dX9_lay_157 : decode cX9_lay 157 = .ok (.getfield 15, 3) := by decide +kernel
theorem dX9_lay_160 : decode cX9_lay 160 = .ok (.iload 8, 2) := by decide +kernel
theorem dX9_lay_162 : decode cX9_lay 162 = .ok (.iaload, 1) := by decide +kernel
theorem dX9_lay_163 : decode cX9_lay 163 = .ok (.iadd, 1) := by decide +kernel
theorem dX9_lay_164 : decode cX9_lay 164 = .ok (.imul, 1) := by decide +kernel
theorem dX9_lay_165 : decode cX9_lay 165 = .ok (.iadd, 1) := by decide +kernel
theorem dX9_lay_166 : decode cX9_lay 166 = .ok (.istore 11, 2) := by decide +kernel
theorem dX9_lay_168 : decode cX9_lay 168 = .ok (.aload_n 0, 1) := by decide +kernel
theorem dX9_lay_169 : decode cX9_lay 169 = .ok (.iload_n 1, 1) := by decide +kernel
theorem dX9_lay_170 : decode cX9_lay 170 = .ok (.iconst 1, 1) := by decide +kernel
theorem dX9_lay_171 : decode cX9_lay 171 = .ok (.iadd, 1) := by decide +kernel
theorem dX9_lay_172 : decode cX9_lay 172 = .ok (.iload 10, 2) := by decide +kernel
theorem dX9_lay_174 : decode cX9_lay 174 = .ok (.iload 11, 2) := by decide +kernel
theorem dX9_lay_176 : decode cX9_lay 176 = .ok (.iload 4, 2) := by decide +kernel
theorem dX9_lay_178 : decode cX9_lay 178 = .ok (.iload 7, 2) := by decide +kernel
theorem dX9_lay_180 : decode cX9_lay 180 = .ok (.aload_n 0, 1) := by decide +kernel
theorem dX9_lay_181 : decode cX9_lay 181 = .ok (.getfield 18, 3) := by decide +kernel
theorem dX9_lay_184 : decode cX9_lay 184 = .ok (.iload 8, 2) := by decide +kernel
theorem dX9_lay_186 : decode cX9_lay 186 = .ok (.iaload, 1) := by decide +kernel
theorem dX9_lay_187 : decode cX9_lay 187 = .ok (.imul, 1) := by decide +kernel
theorem dX9_lay_188 : decode cX9_lay 188 = .ok (.iadd, 1) := by decide +kernel
theorem dX9_lay_189 : decode cX9_lay 189 = .ok (.iload 9, 2) := by decide +kernel
theorem dX9_lay_191 : decode cX9_lay 191 = .ok (.invokevirtual 57, 3) := by decide +kernel
theorem dX9_lay_194 : decode cX9_lay 194 = .ok (.iinc 8 1, 3) := by decide +kernel
theorem dX9_lay_197 : decode cX9_lay 197 = .ok (.goto (-122), 3) := by decide +kernel
theorem dX9_lay_200 : decode cX9_lay 200 = .ok (.return_, 1) := by decide +kernel
theorem dX10_init_0 : decode cX10_init 0 = .ok (.aload_n 0, 1) := by decide +kernel
theorem dX10_init_1 : decode cX10_init 1 = .ok (.invokespecial 1, 3) := by decide +kernel
theorem dX10_init_4 : decode cX10_init 4 = .ok (.aload_n 0, 1) := by decide +kernel
theorem dX10_init_5 : decode cX10_init 5 = .ok (.new 7, 3) := by decide +kernel
theorem dX10_init_8 : decode cX10_init 8 = .ok (.dup, 1) := by decide +kernel
theorem dX10_init_9 : decode cX10_init 9 = .ok (.invokespecial 9, 3) := by decide +kernel
theorem dX10_init_12 : decode cX10_init 12 = .ok (.putfield 10, 3) := by decide +kernel
theorem dX10_init_15 : decode cX10_init 15 = .ok (.aload_n 0, 1) := by decide +kernel
theorem dX10_init_16 : decode cX10_init 16 = .ok (.new 16, 3) := by decide +kernel
theorem dX10_init_19 : decode cX10_init 19 = .ok (.dup, 1) := by decide +kernel
theorem dX10_init_20 : decode cX10_init 20 = .ok (.invokespecial 18, 3) := by decide +kernel
theorem dX10_init_23 : decode cX10_init 23 = .ok (.putfield 19, 3) := by decide +kernel
theorem dX10_init_26 : decode cX10_init 26 = .ok (.aload_n 0, 1) := by decide +kernel
theorem dX10_init_27 : decode cX10_init 27 = .ok (.new 23, 3) := by decide +kernel
theorem dX10_init_30 : decode cX10_init 30 = .ok (.dup, 1) := by decide +kernel
theorem dX10_init_31 : decode cX10_init 31 = .ok (.invokespecial 25, 3) := by decide +kernel
theorem dX10_init_34 : decode cX10_init 34 = .ok (.putfield 26, 3) := by decide +kernel
theorem dX10_init_37 : decode cX10_init 37 = .ok (.aload_n 0, 1) := by decide +kernel
theorem dX10_init_38 : decode cX10_init 38 = .ok (.new 30, 3) := by decide +kernel
theorem dX10_init_41 : decode cX10_init 41 = .ok (.dup, 1) := by decide +kernel
theorem dX10_init_42 : decode cX10_init 42 = .ok (.invokespecial 32, 3) := by decide +kernel
theorem dX10_init_45 : decode cX10_init 45 = .ok (.putfield 33, 3) := by decide +kernel
theorem dX10_init_48 : decode cX10_init 48 = .ok (.aload_n 0, 1) := by decide +kernel
theorem dX10_init_49 : decode cX10_init 49 = .ok (.new 37, 3) := by decide +kernel
theorem dX10_init_52 : decode cX10_init 52 = .ok (.dup, 1) := by decide +kernel
theorem dX10_init_53 : decode cX10_init 53 = .ok (.invokespecial 39, 3) := by decide +kernel
theorem dX10_init_56 : decode cX10_init 56 = .ok (.putfield 40, 3) := by decide +kernel
theorem dX10_init_59 : decode cX10_init 59 = .ok (.aload_n 0, 1) := by decide +kernel
theorem dX10_init_60 : decode cX10_init 60 = .ok (.new 44, 3) := by decide +kernel
theorem dX10_init_63 : decode cX10_init 63 = .ok (.dup, 1) := by decide +kernel
theorem dX10_init_64 : decode cX10_init 64 = .ok (.aload_n 0, 1) := by decide +kernel
theorem dX10_init_65 : decode cX10_init 65 = .ok (.getfield 33, 3) := by decide +kernel
theorem dX10_init_68 : decode cX10_init 68 = .ok (.aload_n 0, 1) := by decide +kernel
theorem dX10_init_69 : decode cX10_init 69 = .ok (.getfield 40, 3) := by decide +kernel
theorem dX10_init_72 : decode cX10_init 72 = .ok (.invokespecial 46, 3) := by decide +kernel
theorem dX10_init_75 : decode cX10_init 75 = .ok (.putfield 49, 3) := by decide +kernel
theorem dX10_init_78 : decode cX10_init 78 = .ok (.aload_n 0, 1) := by decide +kernel
theorem dX10_init_79 : decode cX10_init 79 = .ok (.new 53, 3) := by decide +kernel
theorem dX10_init_82 : decode cX10_init 82 = .ok (.dup, 1) := by decide +kernel
theorem dX10_init_83 : decode cX10_init 83 = .ok (.invokespecial 55, 3) := by decide +kernel
theorem dX10_init_86 : decode cX10_init 86 = .ok (.putfield 56, 3) := by decide +kernel
theorem dX10_init_89 : decode cX10_init 89 = .ok (.aload_n 0, 1) := by decide +kernel
theorem dX10_init_90 : decode cX10_init 90 = .ok (.new 60, 3) := by decide +kernel
theorem dX10_init_93 : decode cX10_init 93 = .ok (.dup, 1) := by decide +kernel
theorem dX10_init_94 : decode cX10_init 94 = .ok (.invokespecial 62, 3) := by decide +kernel
theorem dX10_init_97 : decode cX10_init 97 = .ok (.putfield 63, 3) := by decide +kernel
theorem dX10_init_100 : decode cX10_init 100 = .ok (.aload_n 0, 1) := by decide +kernel
theorem dX10_init_101 : decode cX10_init 101 = .ok (.iconst 0, 1) := by decide +kernel
theorem dX10_init_102 : decode cX10_init 102 = .ok (.putfield 67, 3) := by decide +kernel
theorem dX10_init_105 : decode cX10_init 105 = .ok (.aload_n 0, 1) := by decide +kernel
theorem dX10_init_106 : decode cX10_init 106 = .ok (.iconst (-1), 1) := by decide +kernel
theorem dX10_init_107 : decode cX10_init 107 = .ok (.putfield 71, 3) := by decide +kernel
theorem dX10_init_110 : decode cX10_init 110 = .ok (.return_, 1) := by decide +kernel
theorem dX10_net_0 : decode cX10_net 0 = .ok (.aload_n 0, 1) := by decide +kernel
theorem dX10_net_1 : decode cX10_net 1 = .ok (.getfield 10, 3) := by decide +kernel
theorem dX10_net_4 : decode cX10_net 4 = .ok (.iload_n 1, 1) := by decide +kernel
theorem dX10_net_5 : decode cX10_net 5 = .ok (.iload_n 2, 1) := by decide +kernel
theorem dX10_net_6 : decode cX10_net 6 = .ok (.invokevirtual 74, 3) := by decide +kernel
theorem dX10_net_9 : decode cX10_net 9 = .ok (.ireturn, 1) := by decide +kernel
theorem dX10_centre_0 : decode cX10_centre 0 = .ok (.aload_n 0, 1) := by decide +kernel
theorem dX10_centre_1 : decode cX10_centre 1 = .ok (.getfield 10, 3) := by decide +kernel
theorem dX10_centre_4 : decode cX10_centre 4 = .ok (.invokevirtual 78, 3) := by decide +kernel
theorem dX10_centre_7 : decode cX10_centre 7 = .ok (.aload_n 0, 1) := by decide +kernel
theorem dX10_centre_8 : decode cX10_centre 8 = .ok (.getfield 10, 3) := by decide +kernel
theorem dX10_centre_11 : decode cX10_centre 11 = .ok (.getfield 81, 3) := by decide +kernel
theorem dX10_centre_14 : decode cX10_centre 14 = .ok (.iconst (-1), 1) := by decide +kernel
theorem dX10_centre_15 : decode cX10_centre 15 = .ok (.if_icmp .ne 5, 3) := by decide +kernel
theorem dX10_centre_18 : decode cX10_centre 18 = .ok (.iconst (-1), 1) := by decide +kernel
theorem dX10_centre_19 : decode cX10_centre 19 = .ok (.ireturn, 1) := by decide +kernel
theorem dX10_centre_20 : decode cX10_centre 20 = .ok (.iload_n 1, 1) := by decide +kernel
theorem dX10_centre_21 : decode cX10_centre 21 = .ok (.tableswitch 51 0 2 #[27, 35, 43], 27) := by decide +kernel
theorem dX10_centre_48 : decode cX10_centre 48 = .ok (.aload_n 0, 1) := by decide +kernel
theorem dX10_centre_49 : decode cX10_centre 49 = .ok (.getfield 10, 3) := by decide +kernel
theorem dX10_centre_52 : decode cX10_centre 52 = .ok (.getfield 84, 3) := by decide +kernel
theorem dX10_centre_55 : decode cX10_centre 55 = .ok (.ireturn, 1) := by decide +kernel
theorem dX10_centre_56 : decode cX10_centre 56 = .ok (.aload_n 0, 1) := by decide +kernel
theorem dX10_centre_57 : decode cX10_centre 57 = .ok (.getfield 10, 3) := by decide +kernel
theorem dX10_centre_60 : decode cX10_centre 60 = .ok (.getfield 87, 3) := by decide +kernel
theorem dX10_centre_63 : decode cX10_centre 63 = .ok (.ireturn, 1) := by decide +kernel
theorem dX10_centre_64 : decode cX10_centre 64 = .ok (.aload_n 0, 1) := by decide +kernel
theorem dX10_centre_65 : decode cX10_centre 65 = .ok (.getfield 10, 3) := by decide +kernel
theorem dX10_centre_68 : decode cX10_centre 68 = .ok (.getfield 81, 3) := by decide +kernel
theorem dX10_centre_71 : decode cX10_centre 71 = .ok (.ireturn, 1) := by decide +kernel
theorem dX10_centre_72 : decode cX10_centre 72 = .ok (.iconst (-1), 1) := by decide +kernel
theorem dX10_centre_73 : decode cX10_centre 73 = .ok (.ireturn, 1) := by decide +kernel
theorem dX10_full_0 : decode cX10_full 0 = .ok (.iload_n 1, 1) := by decide +kernel
theorem dX10_full_1 : decode cX10_full 1 = .ok (.iconst 1, 1) := by decide +kernel
theorem dX10_full_2 : decode cX10_full 2 = .ok (.sipush 200, 3) := by decide +kernel
theorem dX10_full_5 : decode cX10_full 5 = .ok (.invokestatic 90, 3) := by decide +kernel
theorem dX10_full_8 : decode cX10_full 8 = .ok (.ifCond .eq 13, 3) := by decide +kernel
theorem dX10_full_11 : decode cX10_full 11 = .ok (.iload_n 2, 1) := by decide +kernel
theorem dX10_full_12 : decode cX10_full 12 = .ok (.iconst 1, 1) := by decide +kernel
theorem dX10_full_13 : decode cX10_full 13 = .ok (.bipush 50, 2) := by decide +kernel
theorem dX10_full_15 : decode cX10_full 15 = .ok (.invokestatic 90, 3) := by decide +kernel
theorem dX10_full_18 : decode cX10_full 18 = .ok (.ifCond .ne 5, 3) := by decide +kernel
theorem dX10_full_21 : decode cX10_full 21 = .ok (.iconst (-1), 1) := by decide +kernel
theorem dX10_full_22 : decode cX10_full 22 = .ok (.ireturn, 1) := by decide +kernel
theorem dX10_full_23 : decode cX10_full 23 = .ok (.aload_n 0, 1) := by decide +kernel
theorem dX10_full_24 : decode cX10_full 24 = .ok (.getfield 10, 3) := by decide +kernel
theorem dX10_full_27 : decode cX10_full 27 = .ok (.invokevirtual 78, 3) := by decide +kernel
theorem dX10_full_30 : decode cX10_full 30 = .ok (.aload_n 0, 1) := by decide +kernel
theorem dX10_full_31 : decode cX10_full 31 = .ok (.getfield 10, 3) := by decide +kernel
theorem dX10_full_34 : decode cX10_full 34 = .ok (.getfield 81, 3) := by decide +kernel
theorem dX10_full_37 : decode cX10_full 37 = .ok (.iconst (-1), 1) := by decide +kernel
theorem dX10_full_38 : decode cX10_full 38 = .ok (.if_icmp .ne 7, 3) := by decide +kernel
theorem dX10_full_41 : decode cX10_full 41 = .ok (.iconst (-1), 1) := by decide +kernel
theorem dX10_full_42 : decode cX10_full 42 = .ok (.goto 12, 3) := by decide +kernel
theorem dX10_full_45 : decode cX10_full 45 = .ok (.aload_n 0, 1) := by decide +kernel
theorem dX10_full_46 : decode cX10_full 46 = .ok (.getfield 10, 3) := by decide +kernel
theorem dX10_full_49 : decode cX10_full 49 = .ok (.iload_n 1, 1) := by decide +kernel
theorem dX10_full_50 : decode cX10_full 50 = .ok (.iload_n 2, 1) := by decide +kernel
theorem dX10_full_51 : decode cX10_full 51 = .ok (.invokevirtual 94, 3) := by decide +kernel
theorem dX10_full_54 : decode cX10_full 54 = .ok (.ireturn, 1) := by decide +kernel
theorem dX10_feed_0 : decode cX10_feed 0 = .ok (.aload_n 0, 1) := by decide +kernel
theorem dX10_feed_1 : decode cX10_feed 1 = .ok (.getfield 19, 3) := by decide +kernel
theorem dX10_feed_4 : decode cX10_feed 4 = .ok (.invokevirtual 98, 3) := by decide +kernel
theorem dX10_feed_7 : decode cX10_feed 7 = .ok (.ifCond .ne 5, 3) := by decide +kernel
theorem dX10_feed_10 : decode cX10_feed 10 = .ok (.iconst (-1), 1) := by decide +kernel
theorem dX10_feed_11 : decode cX10_feed 11 = .ok (.ireturn, 1) := by decide +kernel
theorem dX10_feed_12 : decode cX10_feed 12 = .ok (.aload_n 0, 1) := by decide +kernel
theorem dX10_feed_13 : decode cX10_feed 13 = .ok (.getfield 19, 3) := by decide +kernel
theorem dX10_feed_16 : decode cX10_feed 16 = .ok (.iload_n 1, 1) := by decide +kernel
theorem dX10_feed_17 : decode cX10_feed 17 = .ok (.invokevirtual 102, 3) := by decide +kernel
theorem dX10_feed_20 : decode cX10_feed 20 = .ok (.aload_n 0, 1) := by decide +kernel
theorem dX10_feed_21 : decode cX10_feed 21 = .ok (.getfield 19, 3) := by decide +kernel
theorem dX10_feed_24 : decode cX10_feed 24 = .ok (.iload_n 2, 1) := by decide +kernel
theorem dX10_feed_25 : decode cX10_feed 25 = .ok (.invokevirtual 102, 3) := by decide +kernel
theorem dX10_feed_28 : decode cX10_feed 28 = .ok (.aload_n 0, 1) := by decide +kernel
theorem dX10_feed_29 : decode cX10_feed 29 = .ok (.getfield 19, 3) := by decide +kernel
theorem dX10_feed_32 : decode cX10_feed 32 = .ok (.iload_n 3, 1) := by decide +kernel
theorem dX10_feed_33 : decode cX10_feed 33 = .ok (.invokevirtual 102, 3) := by decide +kernel
theorem dX10_feed_36 : decode cX10_feed 36 = .ok (.aload_n 0, 1) := by decide +kernel
theorem dX10_feed_37 : decode cX10_feed 37 = .ok (.getfield 19, 3) := by decide +kernel
theorem dX10_feed_40 : decode cX10_feed 40 = .ok (.iload 4, 2) := by decide +kernel
theorem dX10_feed_42 : decode cX10_feed 42 = .ok (.invokevirtual 102, 3) := by decide +kernel
theorem dX10_feed_45 : decode cX10_feed 45 = .ok (.aload_n 0, 1) := by decide +kernel
theorem dX10_feed_46 : decode cX10_feed 46 = .ok (.getfield 19, 3) := by decide +kernel
theorem dX10_feed_49 : decode cX10_feed 49 = .ok (.iload 5, 2) := by decide +kernel
theorem dX10_feed_51 : decode cX10_feed 51 = .ok (.invokevirtual 102, 3) := by decide +kernel
theorem dX10_feed_54 : decode cX10_feed 54 = .ok (.aload_n 0, 1) := by decide +kernel
theorem dX10_feed_55 : decode cX10_feed 55 = .ok (.getfield 19, 3) := by decide +kernel
theorem dX10_feed_58 : decode cX10_feed 58 = .ok (.getfield 106, 3) := by decide +kernel
theorem dX10_feed_61 : decode cX10_feed 61 = .ok (.ireturn, 1) := by decide +kernel
theorem dX10_end_0 : decode cX10_end 0 = .ok (.aload_n 0, 1) := by decide +kernel
theorem dX10_end_1 : decode cX10_end 1 = .ok (.getfield 19, 3) := by decide +kernel
theorem dX10_end_4 : decode cX10_end 4 = .ok (.iload_n 1, 1) := by decide +kernel
theorem dX10_end_5 : decode cX10_end 5 = .ok (.invokevirtual 109, 3) := by decide +kernel
theorem dX10_end_8 : decode cX10_end 8 = .ok (.ifCond .eq 7, 3) := by decide +kernel
theorem dX10_end_11 : decode cX10_end 11 = .ok (.iload_n 1, 1) := by decide +kernel
theorem dX10_end_12 : decode cX10_end 12 = .ok (.goto 4, 3) := by decide +kernel
theorem dX10_end_15 : decode cX10_end 15 = .ok (.iconst (-1), 1) := by decide +kernel
theorem dX10_end_16 : decode cX10_end 16 = .ok (.ireturn, 1) := by decide +kernel
theorem dX10_grades_0 : decode cX10_grades 0 = .ok (.aload_n 0, 1) := by decide +kernel
theorem dX10_grades_1 : decode cX10_grades 1 = .ok (.getfield 26, 3) := by decide +kernel
theorem dX10_grades_4 : decode cX10_grades 4 = .ok (.aload_n 0, 1) := by decide +kernel
theorem dX10_grades_5 : decode cX10_grades 5 = .ok (.getfield 19, 3) := by decide +kernel
theorem dX10_grades_8 : decode cX10_grades 8 = .ok (.invokevirtual 113, 3) := by decide +kernel
theorem dX10_grades_11 : decode cX10_grades 11 = .ok (.istore_n 1, 1) := by decide +kernel
theorem dX10_grades_12 : decode cX10_grades 12 = .ok (.aload_n 0, 1) := by decide +kernel
theorem dX10_grades_13 : decode cX10_grades 13 = .ok (.getfield 19, 3) := by decide +kernel
theorem dX10_grades_16 : decode cX10_grades 16 = .ok (.iconst 0, 1) := by decide +kernel
theorem dX10_grades_17 : decode cX10_grades 17 = .ok (.invokevirtual 109, 3) := by decide +kernel
theorem dX10_grades_20 : decode cX10_grades 20 = .ok (.pop, 1) := by decide +kernel
theorem dX10_grades_21 : decode cX10_grades 21 = .ok (.aload_n 0, 1) := by decide +kernel
theorem dX10_grades_22 : decode cX10_grades 22 = .ok (.aload_n 0, 1) := by decide +kernel
theorem dX10_grades_23 : decode cX10_grades 23 = .ok (.getfield 26, 3) := by decide +kernel
theorem dX10_grades_26 : decode cX10_grades 26 = .ok (.getfield 117, 3) := by decide +kernel
theorem dX10_grades_29 : decode cX10_grades 29 = .ok (.putfield 67, 3) := by decide +kernel
theorem dX10_grades_32 : decode cX10_grades 32 = .ok (.aload_n 0, 1) := by decide +kernel
theorem dX10_grades_33 : decode cX10_grades 33 = .ok (.iload_n 1, 1) := by decide +kernel
theorem dX10_grades_34 : decode cX10_grades 34 = .ok (.ifCond .eq 7, 3) := by decide +kernel
theorem dX10_grades_37 : decode cX10_grades 37 = .ok (.iconst (-1), 1) := by decide +kernel
theorem dX10_grades_38 : decode cX10_grades 38 = .ok (.goto 10, 3) := by decide +kernel
theorem dX10_grades_41 : decode cX10_grades 41 = .ok (.aload_n 0, 1) := by decide +kernel
theorem dX10_grades_42 : decode cX10_grades 42 = .ok (.getfield 26, 3) := by decide +kernel
theorem dX10_grades_45 : decode cX10_grades 45 = .ok (.invokevirtual 120, 3) := by decide +kernel
theorem dX10_grades_48 : decode cX10_grades 48 = .ok (.putfield 71, 3) := by decide +kernel
theorem dX10_grades_51 : decode cX10_grades 51 = .ok (.iload_n 1, 1) := by decide +kernel
theorem dX10_grades_52 : decode cX10_grades 52 = .ok (.ifCond .ne 5, 3) := by decide +kernel
theorem dX10_grades_55 : decode cX10_grades 55 = .ok (.iconst (-1), 1) := by decide +kernel
theorem dX10_grades_56 : decode cX10_grades 56 = .ok (.ireturn, 1) := by decide +kernel
theorem dX10_grades_57 : decode cX10_grades 57 = .ok (.aload_n 0, 1) := by decide +kernel
theorem dX10_grades_58 : decode cX10_grades 58 = .ok (.getfield 33, 3) := by decide +kernel
theorem dX10_grades_61 : decode cX10_grades 61 = .ok (.aload_n 0, 1) := by decide +kernel
theorem dX10_grades_62 : decode cX10_grades 62 = .ok (.getfield 26, 3) := by decide +kernel
theorem dX10_grades_65 : decode cX10_grades 65 = .ok (.getfield 124, 3) := by decide +kernel
theorem dX10_grades_68 : decode cX10_grades 68 = .ok (.invokevirtual 127, 3) := by decide +kernel
theorem dX10_grades_71 : decode cX10_grades 71 = .ok (.aload_n 0, 1) := by decide +kernel
theorem dX10_grades_72 : decode cX10_grades 72 = .ok (.getfield 49, 3) := by decide +kernel
theorem dX10_grades_75 : decode cX10_grades 75 = .ok (.invokevirtual 131, 3) := by decide +kernel
theorem dX10_grades_78 : decode cX10_grades 78 = .ok (.aload_n 0, 1) := by decide +kernel
theorem dX10_grades_79 : decode cX10_grades 79 = .ok (.getfield 33, 3) := by decide +kernel
theorem dX10_grades_82 : decode cX10_grades 82 = .ok (.getfield 134, 3) := by decide +kernel
theorem dX10_grades_85 : decode cX10_grades 85 = .ok (.ireturn, 1) := by decide +kernel
theorem dX10_fault_0 : decode cX10_fault 0 = .ok (.iload_n 1, 1) := by decide +kernel
theorem dX10_fault_1 : decode cX10_fault 1 = .ok (.lookupswitch 37 #[(0, 27), (1, 32)], 27) := by decide +kernel
theorem dX10_fault_28 : decode cX10_fault 28 = .ok (.aload_n 0, 1) := by decide +kernel
theorem dX10_fault_29 : decode cX10_fault 29 = .ok (.getfield 67, 3) := by decide +kernel
theorem dX10_fault_32 : decode cX10_fault 32 = .ok (.ireturn, 1) := by decide +kernel
theorem dX10_fault_33 : decode cX10_fault 33 = .ok (.aload_n 0, 1) := by decide +kernel
theorem dX10_fault_34 : decode cX10_fault 34 = .ok (.getfield 71, 3) := by decide +kernel
theorem dX10_fault_37 : decode cX10_fault 37 = .ok (.ireturn, 1) := by decide +kernel
theorem dX10_fault_38 : decode cX10_fault 38 = .ok (.iconst (-1), 1) := by decide +kernel
theorem dX10_fault_39 : decode cX10_fault 39 = .ok (.ireturn, 1) := by decide +kernel
theorem dX10_leaf_0 : decode cX10_leaf 0 = .ok (.aload_n 0, 1) := by decide +kernel
theorem dX10_leaf_1 : decode cX10_leaf 1 = .ok (.aload_n 0, 1) := by decide +kernel
theorem dX10_leaf_2 : decode cX10_leaf 2 = .ok (.getfield 19, 3) := by decide +kernel
theorem dX10_leaf_5 : decode cX10_leaf 5 = .ok (.invokestatic 137, 3) := by decide +kernel
theorem dX10_leaf_8 : decode cX10_leaf 8 = .ok (.putfield 71, 3) := by decide +kernel
theorem dX10_leaf_11 : decode cX10_leaf 11 = .ok (.aload_n 0, 1) := by decide +kernel
theorem dX10_leaf_12 : decode cX10_leaf 12 = .ok (.aload_n 0, 1) := by decide +kernel
theorem dX10_leaf_13 : decode cX10_leaf 13 = .ok (.getfield 71, 3) := by decide +kernel
theorem dX10_leaf_16 : decode cX10_leaf 16 = .ok (.iconst (-1), 1) := by decide +kernel
theorem dX10_leaf_17 : decode cX10_leaf 17 = .ok (.if_icmp .ne 7, 3) := by decide +kernel
theorem dX10_leaf_20 : decode cX10_leaf 20 = .ok (.iconst 0, 1) := by decide +kernel
theorem dX10_leaf_21 : decode cX10_leaf 21 = .ok (.goto 4, 3) := by decide +kernel
theorem dX10_leaf_24 : decode cX10_leaf 24 = .ok (.iconst 1, 1) := by decide +kernel
theorem dX10_leaf_25 : decode cX10_leaf 25 = .ok (.putfield 67, 3) := by decide +kernel
theorem dX10_leaf_28 : decode cX10_leaf 28 = .ok (.aload_n 0, 1) := by decide +kernel
theorem dX10_leaf_29 : decode cX10_leaf 29 = .ok (.getfield 67, 3) := by decide +kernel
theorem dX10_leaf_32 : decode cX10_leaf 32 = .ok (.ifCond .ne 21, 3) := by decide +kernel
theorem dX10_leaf_35 : decode cX10_leaf 35 = .ok (.aload_n 0, 1) := by decide +kernel
theorem dX10_leaf_36 : decode cX10_leaf 36 = .ok (.getfield 40, 3) := by decide +kernel
theorem dX10_leaf_39 : decode cX10_leaf 39 = .ok (.aload_n 0, 1) := by decide +kernel
theorem dX10_leaf_40 : decode cX10_leaf 40 = .ok (.getfield 19, 3) := by decide +kernel
theorem dX10_leaf_43 : decode cX10_leaf 43 = .ok (.invokevirtual 141, 3) := by decide +kernel
theorem dX10_leaf_46 : decode cX10_leaf 46 = .ok (.aload_n 0, 1) := by decide +kernel
theorem dX10_leaf_47 : decode cX10_leaf 47 = .ok (.getfield 49, 3) := by decide +kernel
theorem dX10_leaf_50 : decode cX10_leaf 50 = .ok (.invokevirtual 131, 3) := by decide +kernel
theorem dX10_leaf_53 : decode cX10_leaf 53 = .ok (.aload_n 0, 1) := by decide +kernel
theorem dX10_leaf_54 : decode cX10_leaf 54 = .ok (.getfield 19, 3) := by decide +kernel
theorem dX10_leaf_57 : decode cX10_leaf 57 = .ok (.iconst 0, 1) := by decide +kernel
theorem dX10_leaf_58 : decode cX10_leaf 58 = .ok (.invokevirtual 109, 3) := by decide +kernel
theorem dX10_leaf_61 : decode cX10_leaf 61 = .ok (.pop, 1) := by decide +kernel
theorem dX10_leaf_62 : decode cX10_leaf 62 = .ok (.aload_n 0, 1) := by decide +kernel
theorem dX10_leaf_63 : decode cX10_leaf 63 = .ok (.getfield 67, 3) := by decide +kernel
theorem dX10_leaf_66 : decode cX10_leaf 66 = .ok (.ifCond .ne 13, 3) := by decide +kernel
theorem dX10_leaf_69 : decode cX10_leaf 69 = .ok (.aload_n 0, 1) := by decide +kernel
theorem dX10_leaf_70 : decode cX10_leaf 70 = .ok (.getfield 40, 3) := by decide +kernel
theorem dX10_leaf_73 : decode cX10_leaf 73 = .ok (.getfield 145, 3) := by decide +kernel
theorem dX10_leaf_76 : decode cX10_leaf 76 = .ok (.goto 4, 3) := by decide +kernel
theorem dX10_leaf_79 : decode cX10_leaf 79 = .ok (.iconst (-1), 1) := by decide +kernel
theorem dX10_leaf_80 : decode cX10_leaf 80 = .ok (.ireturn, 1) := by decide +kernel
theorem dX10_patch_0 : decode cX10_patch 0 = .ok (.iload_n 1, 1) := by decide +kernel
theorem dX10_patch_1 : decode cX10_patch 1 = .ok (.iconst 0, 1) := by decide +kernel
theorem dX10_patch_2 : decode cX10_patch 2 = .ok (.iconst 3, 1) := by decide +kernel
theorem dX10_patch_3 : decode cX10_patch 3 = .ok (.invokestatic 90, 3) := by decide +kernel
theorem dX10_patch_6 : decode cX10_patch 6 = .ok (.ifCond .eq 13, 3) := by decide +kernel
theorem dX10_patch_9 : decode cX10_patch 9 = .ok (.iload_n 2, 1) := by decide +kernel
theorem dX10_patch_10 : decode cX10_patch 10 = .ok (.iconst 0, 1) := by decide +kernel
theorem dX10_patch_11 : decode cX10_patch 11 = .ok (.bipush 100, 2) := by decide +kernel
theorem dX10_patch_13 : decode cX10_patch 13 = .ok (.invokestatic 90, 3) := by decide +kernel
theorem dX10_patch_16 : decode cX10_patch 16 = .ok (.ifCond .ne 5, 3) := by decide +kernel
theorem dX10_patch_19 : decode cX10_patch 19 = .ok (.iconst 0, 1) := by decide +kernel
theorem dX10_patch_20 : decode cX10_patch 20 = .ok (.ireturn, 1) := by decide +kernel
theorem dX10_patch_21 : decode cX10_patch 21 = .ok (.aload_n 0, 1) := by decide +kernel
theorem dX10_patch_22 : decode cX10_patch 22 = .ok (.getfield 49, 3) := by decide +kernel
theorem dX10_patch_25 : decode cX10_patch 25 = .ok (.iload_n 1, 1) := by decide +kernel
theorem dX10_patch_26 : decode cX10_patch 26 = .ok (.iload_n 2, 1) := by decide +kernel
theorem dX10_patch_27 : decode cX10_patch 27 = .ok (.invokevirtual 148, 3) := by decide +kernel
theorem dX10_patch_30 : decode cX10_patch 30 = .ok (.iconst 1, 1) := by decide +kernel
theorem dX10_patch_31 : decode cX10_patch 31 = .ok (.ireturn, 1) := by decide +kernel
theorem dX10_sheet_0 : decode cX10_sheet 0 = .ok (.iload_n 3, 1) := by decide +kernel
theorem dX10_sheet_1 : decode cX10_sheet 1 = .ok (.iconst 0, 1) := by decide +kernel
theorem dX10_sheet_2 : decode cX10_sheet 2 = .ok (.iconst 3, 1) := by decide +kernel
theorem dX10_sheet_3 : decode cX10_sheet 3 = .ok (.invokestatic 90, 3) := by decide +kernel
theorem dX10_sheet_6 : decode cX10_sheet 6 = .ok (.ifCond .eq 20, 3) := by decide +kernel
theorem dX10_sheet_9 : decode cX10_sheet 9 = .ok (.iload_n 2, 1) := by decide +kernel
theorem dX10_sheet_10 : decode cX10_sheet 10 = .ok (.iconst 0, 1) := by decide +kernel
theorem dX10_sheet_11 : decode cX10_sheet 11 = .ok (.aload_n 0, 1) := by decide +kernel
theorem dX10_sheet_12 : decode cX10_sheet 12 = .ok (.getfield 33, 3) := by decide +kernel
theorem dX10_sheet_15 : decode cX10_sheet 15 = .ok (.getfield 134, 3) := by decide +kernel
theorem dX10_sheet_18 : decode cX10_sheet 18 = .ok (.iconst 1, 1) := by decide +kernel
theorem dX10_sheet_19 : decode cX10_sheet 19 = .ok (.isub, 1) := by decide +kernel
theorem dX10_sheet_20 : decode cX10_sheet 20 = .ok (.invokestatic 90, 3) := by decide +kernel
theorem dX10_sheet_23 : decode cX10_sheet 23 = .ok (.ifCond .ne 5, 3) := by decide +kernel
theorem dX10_sheet_26 : decode cX10_sheet 26 = .ok (.iconst (-1), 1) := by decide +kernel
theorem dX10_sheet_27 : decode cX10_sheet 27 = .ok (.ireturn, 1) := by decide +kernel
theorem dX10_sheet_28 : decode cX10_sheet 28 = .ok (.iload_n 1, 1) := by decide +kernel
theorem dX10_sheet_29 : decode cX10_sheet 29 = .ok (.iconst 0, 1) := by decide +kernel
theorem dX10_sheet_30 : decode cX10_sheet 30 = .ok (.aload_n 0, 1) := by decide +kernel
theorem dX10_sheet_31 : decode cX10_sheet 31 = .ok (.getfield 40, 3) := by decide +kernel
theorem dX10_sheet_34 : decode cX10_sheet 34 = .ok (.getfield 145, 3) := by decide +kernel
theorem dX10_sheet_37 : decode cX10_sheet 37 = .ok (.aload_n 0, 1) := by decide +kernel
theorem dX10_sheet_38 : decode cX10_sheet 38 = .ok (.getfield 33, 3) := by decide +kernel
theorem dX10_sheet_41 : decode cX10_sheet 41 = .ok (.iload_n 2, 1) := by decide +kernel
theorem dX10_sheet_42 : decode cX10_sheet 42 = .ok (.invokevirtual 152, 3) := by decide +kernel
theorem dX10_sheet_45 : decode cX10_sheet 45 = .ok (.isub, 1) := by decide +kernel
theorem dX10_sheet_46 : decode cX10_sheet 46 = .ok (.invokestatic 90, 3) := by decide +kernel
theorem dX10_sheet_49 : decode cX10_sheet 49 = .ok (.ifCond .ne 5, 3) := by decide +kernel
theorem dX10_sheet_52 : decode cX10_sheet 52 = .ok (.iconst (-1), 1) := by decide +kernel
theorem dX10_sheet_53 : decode cX10_sheet 53 = .ok (.ireturn, 1) := by decide +kernel
theorem dX10_sheet_54 : decode cX10_sheet 54 = .ok (.aload_n 0, 1) := by decide +kernel
theorem dX10_sheet_55 : decode cX10_sheet 55 = .ok (.getfield 49, 3) := by decide +kernel
theorem dX10_sheet_58 : decode cX10_sheet 58 = .ok (.iload_n 1, 1) := by decide +kernel
theorem dX10_sheet_59 : decode cX10_sheet 59 = .ok (.iload_n 2, 1) := by decide +kernel
theorem dX10_sheet_60 : decode cX10_sheet 60 = .ok (.iload_n 3, 1) := by decide +kernel
theorem dX10_sheet_61 : decode cX10_sheet 61 = .ok (.invokevirtual 156, 3) := by decide +kernel
theorem dX10_sheet_64 : decode cX10_sheet 64 = .ok (.ifCond .eq 7, 3) := by decide +kernel
theorem dX10_sheet_67 : decode cX10_sheet 67 = .ok (.iconst 1, 1) := by decide +kernel
theorem dX10_sheet_68 : decode cX10_sheet 68 = .ok (.goto 4, 3) := by decide +kernel
theorem dX10_sheet_71 : decode cX10_sheet 71 = .ok (.iconst 0, 1) := by decide +kernel
theorem dX10_sheet_72 : decode cX10_sheet 72 = .ok (.ireturn, 1) := by decide +kernel
theorem dX10_worth_0 : decode cX10_worth 0 = .ok (.aload_n 0, 1) := by decide +kernel
theorem dX10_worth_1 : decode cX10_worth 1 = .ok (.getfield 49, 3) := by decide +kernel
theorem dX10_worth_4 : decode cX10_worth 4 = .ok (.invokevirtual 159, 3) := by decide +kernel
theorem dX10_worth_7 : decode cX10_worth 7 = .ok (.aload_n 0, 1) := by decide +kernel
theorem dX10_worth_8 : decode cX10_worth 8 = .ok (.getfield 49, 3) := by decide +kernel
theorem dX10_worth_11 : decode cX10_worth 11 = .ok (.invokevirtual 162, 3) := by decide +kernel
theorem dX10_worth_14 : decode cX10_worth 14 = .ok (.ireturn, 1) := by decide +kernel
theorem dX10_sheets_0 : decode cX10_sheets 0 = .ok (.aload_n 0, 1) := by decide +kernel
theorem dX10_sheets_1 : decode cX10_sheets 1 = .ok (.getfield 49, 3) := by decide +kernel
theorem dX10_sheets_4 : decode cX10_sheets 4 = .ok (.invokevirtual 159, 3) := by decide +kernel
theorem dX10_sheets_7 : decode cX10_sheets 7 = .ok (.aload_n 0, 1) := by decide +kernel
theorem dX10_sheets_8 : decode cX10_sheets 8 = .ok (.getfield 49, 3) := by decide +kernel
theorem dX10_sheets_11 : decode cX10_sheets 11 = .ok (.getfield 165, 3) := by decide +kernel
theorem dX10_sheets_14 : decode cX10_sheets 14 = .ok (.ireturn, 1) := by decide +kernel
theorem dX10_clipped_0 : decode cX10_clipped 0 = .ok (.aload_n 0, 1) := by decide +kernel
theorem dX10_clipped_1 : decode cX10_clipped 1 = .ok (.getfield 49, 3) := by decide +kernel
theorem dX10_clipped_4 : decode cX10_clipped 4 = .ok (.invokevirtual 159, 3) := by decide +kernel
theorem dX10_clipped_7 : decode cX10_clipped 7 = .ok (.aload_n 0, 1) := by decide +kernel
theorem dX10_clipped_8 : decode cX10_clipped 8 = .ok (.getfield 49, 3) := by decide +kernel
theorem dX10_clipped_11 : decode cX10_clipped 11 = .ok (.iload_n 1, 1) := by decide +kernel
theorem dX10_clipped_12 : decode cX10_clipped 12 = .ok (.iload_n 2, 1) := by decide +kernel
theorem dX10_clipped_13 : decode cX10_clipped 13 = .ok (.invokevirtual 168, 3) := by decide +kernel
theorem dX10_clipped_16 : decode cX10_clipped 16 = .ok (.ireturn, 1) := by decide +kernel
theorem dX10_veneer_0 : decode cX10_veneer 0 = .ok (.iload_n 1, 1) := by decide +kernel
theorem dX10_veneer_1 : decode cX10_veneer 1 = .ok (.iconst 0, 1) := by decide +kernel
theorem dX10_veneer_2 : decode cX10_veneer 2 = .ok (.iconst 5, 1) := by decide +kernel
theorem dX10_veneer_3 : decode cX10_veneer 3 = .ok (.invokestatic 90, 3) := by decide +kernel
theorem dX10_veneer_6 : decode cX10_veneer 6 = .ok (.ifCond .eq 13, 3) := by decide +kernel
theorem dX10_veneer_9 : decode cX10_veneer 9 = .ok (.iload_n 2, 1) := by decide +kernel
theorem dX10_veneer_10 : decode cX10_veneer 10 = .ok (.iconst 1, 1) := by decide +kernel
theorem dX10_veneer_11 : decode cX10_veneer 11 = .ok (.bipush 90, 2) := by decide +kernel
theorem dX10_veneer_13 : decode cX10_veneer 13 = .ok (.invokestatic 90, 3) := by decide +kernel
theorem dX10_veneer_16 : decode cX10_veneer 16 = .ok (.ifCond .ne 5, 3) := by decide +kernel
theorem dX10_veneer_19 : decode cX10_veneer 19 = .ok (.iconst 0, 1) := by decide +kernel
theorem dX10_veneer_20 : decode cX10_veneer 20 = .ok (.ireturn, 1) := by decide +kernel
theorem dX10_veneer_21 : decode cX10_veneer 21 = .ok (.iload_n 3, 1) := by decide +kernel
theorem dX10_veneer_22 : decode cX10_veneer 22 = .ok (.iconst 0, 1) := by decide +kernel
theorem dX10_veneer_23 : decode cX10_veneer 23 = .ok (.bipush 20, 2) := by decide +kernel
theorem dX10_veneer_25 : decode cX10_veneer 25 = .ok (.iload_n 2, 1) := by decide +kernel
theorem dX10_veneer_26 : decode cX10_veneer 26 = .ok (.invokestatic 171, 3) := by decide +kernel
theorem dX10_veneer_29 : decode cX10_veneer 29 = .ok (.invokestatic 90, 3) := by decide +kernel
theorem dX10_veneer_32 : decode cX10_veneer 32 = .ok (.ifCond .eq 15, 3) := by decide +kernel
theorem dX10_veneer_35 : decode cX10_veneer 35 = .ok (.iload 4, 2) := by decide +kernel
theorem dX10_veneer_37 : decode cX10_veneer 37 = .ok (.iconst 0, 1) := by decide +kernel
theorem dX10_veneer_38 : decode cX10_veneer 38 = .ok (.sipush 1000, 3) := by decide +kernel
theorem dX10_veneer_41 : decode cX10_veneer 41 = .ok (.invokestatic 90, 3) := by decide +kernel
theorem dX10_veneer_44 : decode cX10_veneer 44 = .ok (.ifCond .ne 5, 3) := by decide +kernel
theorem dX10_veneer_47 : decode cX10_veneer 47 = .ok (.iconst 0, 1) := by decide +kernel
theorem dX10_veneer_48 : decode cX10_veneer 48 = .ok (.ireturn, 1) := by decide +kernel
theorem dX10_veneer_49 : decode cX10_veneer 49 = .ok (.aload_n 0, 1) := by decide +kernel
theorem dX10_veneer_50 : decode cX10_veneer 50 = .ok (.getfield 56, 3) := by decide +kernel
theorem dX10_veneer_53 : decode cX10_veneer 53 = .ok (.iload_n 1, 1) := by decide +kernel
theorem dX10_veneer_54 : decode cX10_veneer 54 = .ok (.iload_n 2, 1) := by decide +kernel
theorem dX10_veneer_55 : decode cX10_veneer 55 = .ok (.iload_n 3, 1) := by decide +kernel
theorem dX10_veneer_56 : decode cX10_veneer 56 = .ok (.iload 4, 2) := by decide +kernel
theorem dX10_veneer_58 : decode cX10_veneer 58 = .ok (.iload 5, 2) := by decide +kernel
theorem dX10_veneer_60 : decode cX10_veneer 60 = .ok (.invokevirtual 176, 3) := by decide +kernel
theorem dX10_veneer_63 : decode cX10_veneer 63 = .ok (.iconst 1, 1) := by decide +kernel
theorem dX10_veneer_64 : decode cX10_veneer 64 = .ok (.ireturn, 1) := by decide +kernel
theorem dX10_board_0 : decode cX10_board 0 = .ok (.iload_n 1, 1) := by decide +kernel
theorem dX10_board_1 : decode cX10_board 1 = .ok (.iload_n 2, 1) := by decide +kernel
theorem dX10_board_2 : decode cX10_board 2 = .ok (.invokestatic 180, 3) := by decide +kernel
theorem dX10_board_5 : decode cX10_board 5 = .ok (.ifCond .ne 5, 3) := by decide +kernel
theorem dX10_board_8 : decode cX10_board 8 = .ok (.iconst (-1), 1) := by decide +kernel
theorem dX10_board_9 : decode cX10_board 9 = .ok (.ireturn, 1) := by decide +kernel
theorem dX10_board_10 : decode cX10_board 10 = .ok (.iload_n 3, 1) := by decide +kernel
theorem dX10_board_11 : decode cX10_board 11 = .ok (.tableswitch 55 0 2 #[25, 35, 45], 25) := by decide +kernel
theorem dX10_board_36 : decode cX10_board 36 = .ok (.aload_n 0, 1) := by decide +kernel
theorem dX10_board_37 : decode cX10_board 37 = .ok (.getfield 56, 3) := by decide +kernel
theorem dX10_board_40 : decode cX10_board 40 = .ok (.iload_n 1, 1) := by decide +kernel
theorem dX10_board_41 : decode cX10_board 41 = .ok (.iload_n 2, 1) := by decide +kernel
theorem dX10_board_42 : decode cX10_board 42 = .ok (.invokevirtual 183, 3) := by decide +kernel
theorem dX10_board_45 : decode cX10_board 45 = .ok (.ireturn, 1) := by decide +kernel
theorem dX10_board_46 : decode cX10_board 46 = .ok (.aload_n 0, 1) := by decide +kernel
theorem dX10_board_47 : decode cX10_board 47 = .ok (.getfield 56, 3) := by decide +kernel
theorem dX10_board_50 : decode cX10_board 50 = .ok (.iload_n 1, 1) := by decide +kernel
theorem dX10_board_51 : decode cX10_board 51 = .ok (.iload_n 2, 1) := by decide +kernel
theorem dX10_board_52 : decode cX10_board 52 = .ok (.invokevirtual 186, 3) := by decide +kernel
theorem dX10_board_55 : decode cX10_board 55 = .ok (.ireturn, 1) := by decide +kernel
theorem dX10_board_56 : decode cX10_board 56 = .ok (.aload_n 0, 1) := by decide +kernel
theorem dX10_board_57 : decode cX10_board 57 = .ok (.getfield 56, 3) := by decide +kernel
theorem dX10_board_60 : decode cX10_board 60 = .ok (.iload_n 1, 1) := by decide +kernel
theorem dX10_board_61 : decode cX10_board 61 = .ok (.iload_n 2, 1) := by decide +kernel
theorem dX10_board_62 : decode cX10_board 62 = .ok (.invokevirtual 189, 3) := by decide +kernel
theorem dX10_board_65 : decode cX10_board 65 = .ok (.ireturn, 1) := by decide +kernel
theorem dX10_board_66 : decode cX10_board 66 = .ok (.iconst (-1), 1) := by decide +kernel
theorem dX10_board_67 : decode cX10_board 67 = .ok (.ireturn, 1) := by decide +kernel
theorem dX10_warp_0 : decode cX10_warp 0 = .ok (.iload_n 1, 1) := by decide +kernel
theorem dX10_warp_1 : decode cX10_warp 1 = .ok (.iload_n 2, 1) := by decide +kernel
theorem dX10_warp_2 : decode cX10_warp 2 = .ok (.invokestatic 180, 3) := by decide +kernel
theorem dX10_warp_5 : decode cX10_warp 5 = .ok (.ifCond .eq 15, 3) := by decide +kernel
theorem dX10_warp_8 : decode cX10_warp 8 = .ok (.aload_n 0, 1) := by decide +kernel
theorem dX10_warp_9 : decode cX10_warp 9 = .ok (.getfield 56, 3) := by decide +kernel
theorem dX10_warp_12 : decode cX10_warp 12 = .ok (.iload_n 1, 1) := by decide +kernel
theorem dX10_warp_13 : decode cX10_warp 13 = .ok (.iload_n 2, 1) := by decide +kernel
theorem dX10_warp_14 : decode cX10_warp 14 = .ok (.invokevirtual 192, 3) := by decide +kernel
theorem dX10_warp_17 : decode cX10_warp 17 = .ok (.goto 5, 3) := by decide +kernel
theorem dX10_warp_20 : decode cX10_warp 20 = .ok (.ldc 195, 2) := by decide +kernel
theorem dX10_warp_22 : decode cX10_warp 22 = .ok (.ireturn, 1) := by decide +kernel
theorem dX10_best_0 : decode cX10_best 0 = .ok (.iload_n 1, 1) := by decide +kernel
theorem dX10_best_1 : decode cX10_best 1 = .ok (.iconst 1, 1) := by decide +kernel
theorem dX10_best_2 : decode cX10_best 2 = .ok (.bipush 9, 2) := by decide +kernel
theorem dX10_best_4 : decode cX10_best 4 = .ok (.invokestatic 90, 3) := by decide +kernel
theorem dX10_best_7 : decode cX10_best 7 = .ok (.ifCond .eq 9, 3) := by decide +kernel
theorem dX10_best_10 : decode cX10_best 10 = .ok (.iload_n 1, 1) := by decide +kernel
theorem dX10_best_11 : decode cX10_best 11 = .ok (.iconst 2, 1) := by decide +kernel
theorem dX10_best_12 : decode cX10_best 12 = .ok (.irem, 1) := by decide +kernel
theorem dX10_best_13 : decode cX10_best 13 = .ok (.ifCond .ne 5, 3) := by decide +kernel
theorem dX10_best_16 : decode cX10_best 16 = .ok (.iconst (-1), 1) := by decide +kernel
theorem dX10_best_17 : decode cX10_best 17 = .ok (.ireturn, 1) := by decide +kernel
theorem dX10_best_18 : decode cX10_best 18 = .ok (.aload_n 0, 1) := by decide +kernel
theorem dX10_best_19 : decode cX10_best 19 = .ok (.getfield 56, 3) := by decide +kernel
theorem dX10_best_22 : decode cX10_best 22 = .ok (.iload_n 1, 1) := by decide +kernel
theorem dX10_best_23 : decode cX10_best 23 = .ok (.iload_n 2, 1) := by decide +kernel
theorem dX10_best_24 : decode cX10_best 24 = .ok (.iload_n 3, 1) := by decide +kernel
theorem dX10_best_25 : decode cX10_best 25 = .ok (.invokevirtual 196, 3) := by decide +kernel
theorem dX10_best_28 : decode cX10_best 28 = .ok (.ireturn, 1) := by decide +kernel
theorem dX10_press_0 : decode cX10_press 0 = .ok (.iload_n 1, 1) := by decide +kernel
theorem dX10_press_1 : decode cX10_press 1 = .ok (.iconst 1, 1) := by decide +kernel
theorem dX10_press_2 : decode cX10_press 2 = .ok (.bipush 10, 2) := by decide +kernel
theorem dX10_press_4 : decode cX10_press 4 = .ok (.invokestatic 90, 3) := by decide +kernel
theorem dX10_press_7 : decode cX10_press 7 = .ok (.ifCond .eq 13, 3) := by decide +kernel
theorem dX10_press_10 : decode cX10_press 10 = .ok (.iload_n 2, 1) := by decide +kernel
theorem dX10_press_11 : decode cX10_press 11 = .ok (.iconst 0, 1) := by decide +kernel
theorem dX10_press_12 : decode cX10_press 12 = .ok (.bipush 100, 2) := by decide +kernel
theorem dX10_press_14 : decode cX10_press 14 = .ok (.invokestatic 90, 3) := by decide +kernel
theorem dX10_press_17 : decode cX10_press 17 = .ok (.ifCond .ne 5, 3) := by decide +kernel
theorem dX10_press_20 : decode cX10_press 20 = .ok (.iconst 0, 1) := by decide +kernel
theorem dX10_press_21 : decode cX10_press 21 = .ok (.ireturn, 1) := by decide +kernel
theorem dX10_press_22 : decode cX10_press 22 = .ok (.iload_n 3, 1) := by decide +kernel
theorem dX10_press_23 : decode cX10_press 23 = .ok (.iconst 0, 1) := by decide +kernel
theorem dX10_press_24 : decode cX10_press 24 = .ok (.bipush 10, 2) := by decide +kernel
theorem dX10_press_26 : decode cX10_press 26 = .ok (.invokestatic 90, 3) := by decide +kernel
theorem dX10_press_29 : decode cX10_press 29 = .ok (.ifCond .eq 15, 3) := by decide +kernel
theorem dX10_press_32 : decode cX10_press 32 = .ok (.iload 4, 2) := by decide +kernel
theorem dX10_press_34 : decode cX10_press 34 = .ok (.iconst 1, 1) := by decide +kernel
theorem dX10_press_35 : decode cX10_press 35 = .ok (.sipush 1000, 3) := by decide +kernel
theorem dX10_press_38 : decode cX10_press 38 = .ok (.invokestatic 90, 3) := by decide +kernel
theorem dX10_press_41 : decode cX10_press 41 = .ok (.ifCond .ne 5, 3) := by decide +kernel
theorem dX10_press_44 : decode cX10_press 44 = .ok (.iconst 0, 1) := by decide +kernel
theorem dX10_press_45 : decode cX10_press 45 = .ok (.ireturn, 1) := by decide +kernel
theorem dX10_press_46 : decode cX10_press 46 = .ok (.aload_n 0, 1) := by decide +kernel
theorem dX10_press_47 : decode cX10_press 47 = .ok (.getfield 63, 3) := by decide +kernel
theorem dX10_press_50 : decode cX10_press 50 = .ok (.iload_n 1, 1) := by decide +kernel
theorem dX10_press_51 : decode cX10_press 51 = .ok (.iload_n 2, 1) := by decide +kernel
theorem dX10_press_52 : decode cX10_press 52 = .ok (.iload_n 3, 1) := by decide +kernel
theorem dX10_press_53 : decode cX10_press 53 = .ok (.iload 4, 2) := by decide +kernel
theorem dX10_press_55 : decode cX10_press 55 = .ok (.invokevirtual 200, 3) := by decide +kernel
theorem dX10_press_58 : decode cX10_press 58 = .ok (.iconst 1, 1) := by decide +kernel
theorem dX10_press_59 : decode cX10_press 59 = .ok (.ireturn, 1) := by decide +kernel
theorem dX10_glue_0 : decode cX10_glue 0 = .ok (.iload_n 1, 1) := by decide +kernel
theorem dX10_glue_1 : decode cX10_glue 1 = .ok (.iconst 1, 1) := by decide +kernel
theorem dX10_glue_2 : decode cX10_glue 2 = .ok (.sipush 500, 3) := by decide +kernel
theorem dX10_glue_5 : decode cX10_glue 5 = .ok (.invokestatic 90, 3) := by decide +kernel
theorem dX10_glue_8 : decode cX10_glue 8 = .ok (.ifCond .eq 14, 3) := by decide +kernel
theorem dX10_glue_11 : decode cX10_glue 11 = .ok (.iload_n 2, 1) := by decide +kernel
theorem dX10_glue_12 : decode cX10_glue 12 = .ok (.iconst 0, 1) := by decide +kernel
theorem dX10_glue_13 : decode cX10_glue 13 = .ok (.sipush 10000, 3) := by decide +kernel
theorem dX10_glue_16 : decode cX10_glue 16 = .ok (.invokestatic 90, 3) := by decide +kernel
theorem dX10_glue_19 : decode cX10_glue 19 = .ok (.ifCond .ne 5, 3) := by decide +kernel
theorem dX10_glue_22 : decode cX10_glue 22 = .ok (.iconst (-1), 1) := by decide +kernel
theorem dX10_glue_23 : decode cX10_glue 23 = .ok (.ireturn, 1) := by decide +kernel
theorem dX10_glue_24 : decode cX10_glue 24 = .ok (.aload_n 0, 1) := by decide +kernel
theorem dX10_glue_25 : decode cX10_glue 25 = .ok (.getfield 63, 3) := by decide +kernel
theorem dX10_glue_28 : decode cX10_glue 28 = .ok (.iload_n 1, 1) := by decide +kernel
theorem dX10_glue_29 : decode cX10_glue 29 = .ok (.iload_n 2, 1) := by decide +kernel
theorem dX10_glue_30 : decode cX10_glue 30 = .ok (.invokevirtual 203, 3) := by decide +kernel
theorem dX10_glue_33 : decode cX10_glue 33 = .ok (.ireturn, 1) := by decide +kernel
theorem dX10_drop_0 : decode cX10_drop 0 = .ok (.aload_n 0, 1) := by decide +kernel
theorem dX10_drop_1 : decode cX10_drop 1 = .ok (.getfield 63, 3) := by decide +kernel
theorem dX10_drop_4 : decode cX10_drop 4 = .ok (.invokevirtual 206, 3) := by decide +kernel
