theorem dX0_init_0 : decode cX0_init 0 = .ok (.aload_n 0, 1) := by decide +kernel
theorem dX0_init_1 : decode cX0_init 1 = .ok (.invokespecial 3, 3) := by decide +kernel
theorem dX0_init_4 : decode cX0_init 4 = .ok (.aload_n 0, 1) := by decide +kernel
theorem dX0_init_5 : decode cX0_init 5 = .ok (.aload_n 1, 1) := by decide +kernel
theorem dX0_init_6 : decode cX0_init 6 = .ok (.putfield 9, 3) := by decide +kernel
theorem dX0_init_9 : decode cX0_init 9 = .ok (.aload_n 0, 1) := by decide +kernel
theorem dX0_init_10 : decode cX0_init 10 = .ok (.aload_n 2, 1) := by decide +kernel
theorem dX0_init_11 : decode cX0_init 11 = .ok (.putfield 15, 3) := by decide +kernel
theorem dX0_init_14 : decode cX0_init 14 = .ok (.aload_n 0, 1) := by decide +kernel
theorem dX0_init_15 : decode cX0_init 15 = .ok (.new 19, 3) := by decide +kernel
theorem dX0_init_18 : decode cX0_init 18 = .ok (.dup, 1) := by decide +kernel
theorem dX0_init_19 : decode cX0_init 19 = .ok (.aload_n 2, 1) := by decide +kernel
theorem dX0_init_20 : decode cX0_init 20 = .ok (.invokespecial 21, 3) := by decide +kernel
theorem dX0_init_23 : decode cX0_init 23 = .ok (.putfield 24, 3) := by decide +kernel
theorem dX0_init_26 : decode cX0_init 26 = .ok (.aload_n 0, 1) := by decide +kernel
theorem dX0_init_27 : decode cX0_init 27 = .ok (.sipush 301, 3) := by decide +kernel
theorem dX0_init_30 : decode cX0_init 30 = .ok (.newarray .int, 2) := by decide +kernel
theorem dX0_init_32 : decode cX0_init 32 = .ok (.putfield 30, 3) := by decide +kernel
theorem dX0_init_35 : decode cX0_init 35 = .ok (.aload_n 0, 1) := by decide +kernel
theorem dX0_init_36 : decode cX0_init 36 = .ok (.sipush 301, 3) := by decide +kernel
theorem dX0_init_39 : decode cX0_init 39 = .ok (.newarray .int, 2) := by decide +kernel
theorem dX0_init_41 : decode cX0_init 41 = .ok (.putfield 34, 3) := by decide +kernel
theorem dX0_init_44 : decode cX0_init 44 = .ok (.aload_n 0, 1) := by decide +kernel
theorem dX0_init_45 : decode cX0_init 45 = .ok (.sipush 301, 3) := by decide +kernel
theorem dX0_init_48 : decode cX0_init 48 = .ok (.newarray .int, 2) := by decide +kernel
theorem dX0_init_50 : decode cX0_init 50 = .ok (.putfield 37, 3) := by decide +kernel
theorem dX0_init_53 : decode cX0_init 53 = .ok (.aload_n 0, 1) := by decide +kernel
theorem dX0_init_54 : decode cX0_init 54 = .ok (.sipush 301, 3) := by decide +kernel
theorem dX0_init_57 : decode cX0_init 57 = .ok (.newarray .int, 2) := by decide +kernel
theorem dX0_init_59 : decode cX0_init 59 = .ok (.putfield 40, 3) := by decide +kernel
theorem dX0_init_62 : decode cX0_init 62 = .ok (.aload_n 0, 1) := by decide +kernel
theorem dX0_init_63 : decode cX0_init 63 = .ok (.sipush 300, 3) := by decide +kernel
theorem dX0_init_66 : decode cX0_init 66 = .ok (.newarray .int, 2) := by decide +kernel
theorem dX0_init_68 : decode cX0_init 68 = .ok (.putfield 43, 3) := by decide +kernel
theorem dX0_init_71 : decode cX0_init 71 = .ok (.aload_n 0, 1) := by decide +kernel
theorem dX0_init_72 : decode cX0_init 72 = .ok (.iconst 0, 1) := by decide +kernel
theorem dX0_init_73 : decode cX0_init 73 = .ok (.putfield 46, 3) := by decide +kernel
theorem dX0_init_76 : decode cX0_init 76 = .ok (.aload_n 0, 1) := by decide +kernel
theorem dX0_init_77 : decode cX0_init 77 = .ok (.iconst 1, 1) := by decide +kernel
theorem dX0_init_78 : decode cX0_init 78 = .ok (.putfield 50, 3) := by decide +kernel
theorem dX0_init_81 : decode cX0_init 81 = .ok (.aload_n 0, 1) := by decide +kernel
theorem dX0_init_82 : decode cX0_init 82 = .ok (.iconst 0, 1) := by decide +kernel
theorem dX0_init_83 : decode cX0_init 83 = .ok (.putfield 53, 3) := by decide +kernel
theorem dX0_init_86 : decode cX0_init 86 = .ok (.aload_n 0, 1) := by decide +kernel
theorem dX0_init_87 : decode cX0_init 87 = .ok (.iconst 1, 1) := by decide +kernel
theorem dX0_init_88 : decode cX0_init 88 = .ok (.putfield 56, 3) := by decide +kernel
theorem dX0_init_91 : decode cX0_init 91 = .ok (.return_, 1) := by decide +kernel
theorem dX0_forget_0 : decode cX0_forget 0 = .ok (.aload_n 0, 1) := by decide +kernel
theorem dX0_forget_1 : decode cX0_forget 1 = .ok (.iconst 1, 1) := by decide +kernel
theorem dX0_forget_2 : decode cX0_forget 2 = .ok (.putfield 56, 3) := by decide +kernel
theorem dX0_forget_5 : decode cX0_forget 5 = .ok (.return_, 1) := by decide +kernel
theorem dX0_setPatching_0 : decode cX0_setPatching 0 = .ok (.aload_n 0, 1) := by decide +kernel
theorem dX0_setPatching_1 : decode cX0_setPatching 1 = .ok (.iload_n 1, 1) := by decide +kernel
theorem dX0_setPatching_2 : decode cX0_setPatching 2 = .ok (.putfield 46, 3) := by decide +kernel
theorem dX0_setPatching_5 : decode cX0_setPatching 5 = .ok (.aload_n 0, 1) := by decide +kernel
theorem dX0_setPatching_6 : decode cX0_setPatching 6 = .ok (.iload_n 2, 1) := by decide +kernel
theorem dX0_setPatching_7 : decode cX0_setPatching 7 = .ok (.putfield 50, 3) := by decide +kernel
theorem dX0_setPatching_10 : decode cX0_setPatching 10 = .ok (.aload_n 0, 1) := by decide +kernel
theorem dX0_setPatching_11 : decode cX0_setPatching 11 = .ok (.iconst 1, 1) := by decide +kernel
theorem dX0_setPatching_12 : decode cX0_setPatching 12 = .ok (.putfield 56, 3) := by decide +kernel
theorem dX0_setPatching_15 : decode cX0_setPatching 15 = .ok (.return_, 1) := by decide +kernel
theorem dX0_isSheet_0 : decode cX0_isSheet 0 = .ok (.aload_n 0, 1) := by decide +kernel
theorem dX0_isSheet_1 : decode cX0_isSheet 1 = .ok (.getfield 24, 3) := by decide +kernel
theorem dX0_isSheet_4 : decode cX0_isSheet 4 = .ok (.iload_n 1, 1) := by decide +kernel
theorem dX0_isSheet_5 : decode cX0_isSheet 5 = .ok (.invokevirtual 60, 3) := by decide +kernel
theorem dX0_isSheet_8 : decode cX0_isSheet 8 = .ok (.aload_n 0, 1) := by decide +kernel
theorem dX0_isSheet_9 : decode cX0_isSheet 9 = .ok (.getfield 24, 3) := by decide +kernel
theorem dX0_isSheet_12 : decode cX0_isSheet 12 = .ok (.iload_n 1, 1) := by decide +kernel
theorem dX0_isSheet_13 : decode cX0_isSheet 13 = .ok (.aload_n 0, 1) := by decide +kernel
theorem dX0_isSheet_14 : decode cX0_isSheet 14 = .ok (.getfield 9, 3) := by decide +kernel
theorem dX0_isSheet_17 : decode cX0_isSheet 17 = .ok (.iload_n 2, 1) := by decide +kernel
theorem dX0_isSheet_18 : decode cX0_isSheet 18 = .ok (.invokevirtual 64, 3) := by decide +kernel
theorem dX0_isSheet_21 : decode cX0_isSheet 21 = .ok (.iadd, 1) := by decide +kernel
theorem dX0_isSheet_22 : decode cX0_isSheet 22 = .ok (.invokevirtual 70, 3) := by decide +kernel
theorem dX0_isSheet_25 : decode cX0_isSheet 25 = .ok (.aload_n 0, 1) := by decide +kernel
theorem dX0_isSheet_26 : decode cX0_isSheet 26 = .ok (.iload_n 2, 1) := by decide +kernel
theorem dX0_isSheet_27 : decode cX0_isSheet 27 = .ok (.iload_n 3, 1) := by decide +kernel
theorem dX0_isSheet_28 : decode cX0_isSheet 28 = .ok (.invokevirtual 73, 3) := by decide +kernel
theorem dX0_isSheet_31 : decode cX0_isSheet 31 = .ok (.ireturn, 1) := by decide +kernel
theorem dX0_partIsSheet_0 : decode cX0_partIsSheet 0 = .ok (.aload_n 0, 1) := by decide +kernel
theorem dX0_partIsSheet_1 : decode cX0_partIsSheet 1 = .ok (.getfield 24, 3) := by decide +kernel
theorem dX0_partIsSheet_4 : decode cX0_partIsSheet 4 = .ok (.iload_n 2, 1) := by decide +kernel
theorem dX0_partIsSheet_5 : decode cX0_partIsSheet 5 = .ok (.putfield 77, 3) := by decide +kernel
theorem dX0_partIsSheet_8 : decode cX0_partIsSheet 8 = .ok (.iload_n 2, 1) := by decide +kernel
theorem dX0_partIsSheet_9 : decode cX0_partIsSheet 9 = .ok (.aload_n 0, 1) := by decide +kernel
theorem dX0_partIsSheet_10 : decode cX0_partIsSheet 10 = .ok (.getfield 46, 3) := by decide +kernel
theorem dX0_partIsSheet_13 : decode cX0_partIsSheet 13 = .ok (.if_icmp .gt 33, 3) := by decide +kernel
theorem dX0_partIsSheet_16 : decode cX0_partIsSheet 16 = .ok (.iload_n 2, 1) := by decide +kernel
theorem dX0_partIsSheet_17 : decode cX0_partIsSheet 17 = .ok (.aload_n 0, 1) := by decide +kernel
theorem dX0_partIsSheet_18 : decode cX0_partIsSheet 18 = .ok (.getfield 24, 3) := by decide +kernel
theorem dX0_partIsSheet_21 : decode cX0_partIsSheet 21 = .ok (.getfield 80, 3) := by decide +kernel
theorem dX0_partIsSheet_24 : decode cX0_partIsSheet 24 = .ok (.if_icmp .gt 22, 3) := by decide +kernel
theorem dX0_partIsSheet_27 : decode cX0_partIsSheet 27 = .ok (.aload_n 0, 1) := by decide +kernel
theorem dX0_partIsSheet_28 : decode cX0_partIsSheet 28 = .ok (.getfield 9, 3) := by decide +kernel
theorem dX0_partIsSheet_31 : decode cX0_partIsSheet 31 = .ok (.iload_n 1, 1) := by decide +kernel
theorem dX0_partIsSheet_32 : decode cX0_partIsSheet 32 = .ok (.aload_n 0, 1) := by decide +kernel
theorem dX0_partIsSheet_33 : decode cX0_partIsSheet 33 = .ok (.getfield 24, 3) := by decide +kernel
theorem dX0_partIsSheet_36 : decode cX0_partIsSheet 36 = .ok (.invokevirtual 83, 3) := by decide +kernel
theorem dX0_partIsSheet_39 : decode cX0_partIsSheet 39 = .ok (.ifCond .eq 7, 3) := by decide +kernel
theorem dX0_partIsSheet_42 : decode cX0_partIsSheet 42 = .ok (.iconst 1, 1) := by decide +kernel
theorem dX0_partIsSheet_43 : decode cX0_partIsSheet 43 = .ok (.goto 4, 3) := by decide +kernel
theorem dX0_partIsSheet_46 : decode cX0_partIsSheet 46 = .ok (.iconst 0, 1) := by decide +kernel
theorem dX0_partIsSheet_47 : decode cX0_partIsSheet 47 = .ok (.ireturn, 1) := by decide +kernel
theorem dX0_find_0 : decode cX0_find 0 = .ok (.aload_n 0, 1) := by decide +kernel
theorem dX0_find_1 : decode cX0_find 1 = .ok (.getfield 56, 3) := by decide +kernel
theorem dX0_find_4 : decode cX0_find 4 = .ok (.ifCond .ne 4, 3) := by decide +kernel
theorem dX0_find_7 : decode cX0_find 7 = .ok (.return_, 1) := by decide +kernel
theorem dX0_find_8 : decode cX0_find 8 = .ok (.aload_n 0, 1) := by decide +kernel
theorem dX0_find_9 : decode cX0_find 9 = .ok (.iconst 0, 1) := by decide +kernel
theorem dX0_find_10 : decode cX0_find 10 = .ok (.putfield 56, 3) := by decide +kernel
theorem dX0_find_13 : decode cX0_find 13 = .ok (.aload_n 0, 1) := by decide +kernel
theorem dX0_find_14 : decode cX0_find 14 = .ok (.getfield 15, 3) := by decide +kernel
theorem dX0_find_17 : decode cX0_find 17 = .ok (.getfield 87, 3) := by decide +kernel
theorem dX0_find_20 : decode cX0_find 20 = .ok (.sipush 300, 3) := by decide +kernel
theorem dX0_find_23 : decode cX0_find 23 = .ok (.invokestatic 90, 3) := by decide +kernel
theorem dX0_find_26 : decode cX0_find 26 = .ok (.istore_n 1, 1) := by decide +kernel
theorem dX0_find_27 : decode cX0_find 27 = .ok (.aload_n 0, 1) := by decide +kernel
theorem dX0_find_28 : decode cX0_find 28 = .ok (.getfield 30, 3) := by decide +kernel
theorem dX0_find_31 : decode cX0_find 31 = .ok (.iload_n 1, 1) := by decide +kernel
theorem dX0_find_32 : decode cX0_find 32 = .ok (.iconst 0, 1) := by decide +kernel
theorem dX0_find_33 : decode cX0_find 33 = .ok (.iastore, 1) := by decide +kernel
theorem dX0_find_34 : decode cX0_find 34 = .ok (.aload_n 0, 1) := by decide +kernel
theorem dX0_find_35 : decode cX0_find 35 = .ok (.getfield 34, 3) := by decide +kernel
theorem dX0_find_38 : decode cX0_find 38 = .ok (.iload_n 1, 1) := by decide +kernel
theorem dX0_find_39 : decode cX0_find 39 = .ok (.iconst 0, 1) := by decide +kernel
theorem dX0_find_40 : decode cX0_find 40 = .ok (.iastore, 1) := by decide +kernel
theorem dX0_find_41 : decode cX0_find 41 = .ok (.iload_n 1, 1) := by decide +kernel
theorem dX0_find_42 : decode cX0_find 42 = .ok (.iconst 1, 1) := by decide +kernel
theorem dX0_find_43 : decode cX0_find 43 = .ok (.isub, 1) := by decide +kernel
theorem dX0_find_44 : decode cX0_find 44 = .ok (.istore_n 2, 1) := by decide +kernel
theorem dX0_find_45 : decode cX0_find 45 = .ok (.iload_n 2, 1) := by decide +kernel
theorem dX0_find_46 : decode cX0_find 46 = .ok (.ifCond .lt 84, 3) := by decide +kernel
theorem dX0_find_49 : decode cX0_find 49 = .ok (.aload_n 0, 1) := by decide +kernel
theorem dX0_find_50 : decode cX0_find 50 = .ok (.getfield 30, 3) := by decide +kernel
theorem dX0_find_53 : decode cX0_find 53 = .ok (.iload_n 2, 1) := by decide +kernel
theorem dX0_find_54 : decode cX0_find 54 = .ok (.aload_n 0, 1) := by decide +kernel
theorem dX0_find_55 : decode cX0_find 55 = .ok (.getfield 30, 3) := by decide +kernel
theorem dX0_find_58 : decode cX0_find 58 = .ok (.iload_n 2, 1) := by decide +kernel
theorem dX0_find_59 : decode cX0_find 59 = .ok (.iconst 1, 1) := by decide +kernel
theorem dX0_find_60 : decode cX0_find 60 = .ok (.iadd, 1) := by decide +kernel
theorem dX0_find_61 : decode cX0_find 61 = .ok (.iaload, 1) := by decide +kernel
theorem dX0_find_62 : decode cX0_find 62 = .ok (.iastore, 1) := by decide +kernel
theorem dX0_find_63 : decode cX0_find 63 = .ok (.aload_n 0, 1) := by decide +kernel
theorem dX0_find_64 : decode cX0_find 64 = .ok (.getfield 34, 3) := by decide +kernel
theorem dX0_find_67 : decode cX0_find 67 = .ok (.iload_n 2, 1) := by decide +kernel
theorem dX0_find_68 : decode cX0_find 68 = .ok (.aload_n 0, 1) := by decide +kernel
theorem dX0_find_69 : decode cX0_find 69 = .ok (.getfield 34, 3) := by decide +kernel
theorem dX0_find_72 : decode cX0_find 72 = .ok (.iload_n 2, 1) := by decide +kernel
theorem dX0_find_73 : decode cX0_find 73 = .ok (.iconst 1, 1) := by decide +kernel
theorem dX0_find_74 : decode cX0_find 74 = .ok (.iadd, 1) := by decide +kernel
theorem dX0_find_75 : decode cX0_find 75 = .ok (.iaload, 1) := by decide +kernel
theorem dX0_find_76 : decode cX0_find 76 = .ok (.iastore, 1) := by decide +kernel
theorem dX0_find_77 : decode cX0_find 77 = .ok (.aload_n 0, 1) := by decide +kernel
theorem dX0_find_78 : decode cX0_find 78 = .ok (.getfield 37, 3) := by decide +kernel
theorem dX0_find_81 : decode cX0_find 81 = .ok (.iload_n 2, 1) := by decide +kernel
theorem dX0_find_82 : decode cX0_find 82 = .ok (.iconst (-1), 1) := by decide +kernel
theorem dX0_find_83 : decode cX0_find 83 = .ok (.iastore, 1) := by decide +kernel
theorem dX0_find_84 : decode cX0_find 84 = .ok (.aload_n 0, 1) := by decide +kernel
theorem dX0_find_85 : decode cX0_find 85 = .ok (.getfield 40, 3) := by decide +kernel
theorem dX0_find_88 : decode cX0_find 88 = .ok (.iload_n 2, 1) := by decide +kernel
theorem dX0_find_89 : decode cX0_find 89 = .ok (.iconst 0, 1) := by decide +kernel
theorem dX0_find_90 : decode cX0_find 90 = .ok (.iastore, 1) := by decide +kernel
theorem dX0_find_91 : decode cX0_find 91 = .ok (.aload_n 0, 1) := by decide +kernel
theorem dX0_find_92 : decode cX0_find 92 = .ok (.getfield 24, 3) := by decide +kernel
theorem dX0_find_95 : decode cX0_find 95 = .ok (.iload_n 2, 1) := by decide +kernel
theorem dX0_find_96 : decode cX0_find 96 = .ok (.invokevirtual 60, 3) := by decide +kernel
theorem dX0_find_99 : decode cX0_find 99 = .ok (.iconst 0, 1) := by decide +kernel
theorem dX0_find_100 : decode cX0_find 100 = .ok (.istore_n 3, 1) := by decide +kernel
theorem dX0_find_101 : decode cX0_find 101 = .ok (.iload_n 3, 1) := by decide +kernel
theorem dX0_find_102 : decode cX0_find 102 = .ok (.aload_n 0, 1) := by decide +kernel
theorem dX0_find_103 : decode cX0_find 103 = .ok (.getfield 9, 3) := by decide +kernel
theorem dX0_find_106 : decode cX0_find 106 = .ok (.getfield 96, 3) := by decide +kernel
theorem dX0_find_109 : decode cX0_find 109 = .ok (.if_icmp .ge 15, 3) := by decide +kernel
theorem dX0_find_112 : decode cX0_find 112 = .ok (.aload_n 0, 1) := by decide +kernel
theorem dX0_find_113 : decode cX0_find 113 = .ok (.iload_n 2, 1) := by decide +kernel
theorem dX0_find_114 : decode cX0_find 114 = .ok (.iload_n 3, 1) := by decide +kernel
theorem dX0_find_115 : decode cX0_find 115 = .ok (.invokevirtual 99, 3) := by decide +kernel
theorem dX0_find_118 : decode cX0_find 118 = .ok (.iinc 3 1, 3) := by decide +kernel
theorem dX0_find_121 : decode cX0_find 121 = .ok (.goto (-20), 3) := by decide +kernel
theorem dX0_find_124 : decode cX0_find 124 = .ok (.iinc 2 (-1), 3) := by decide +kernel
theorem dX0_find_127 : decode cX0_find 127 = .ok (.goto (-82), 3) := by decide +kernel
theorem dX0_find_130 : decode cX0_find 130 = .ok (.aload_n 0, 1) := by decide +kernel
theorem dX0_find_131 : decode cX0_find 131 = .ok (.iload_n 1, 1) := by decide +kernel
theorem dX0_find_132 : decode cX0_find 132 = .ok (.invokevirtual 103, 3) := by decide +kernel
theorem dX0_find_135 : decode cX0_find 135 = .ok (.return_, 1) := by decide +kernel
theorem dX0_trySheets_0 : decode cX0_trySheets 0 = .ok (.iload_n 1, 1) := by decide +kernel
theorem dX0_trySheets_1 : decode cX0_trySheets 1 = .ok (.aload_n 0, 1) := by decide +kernel
theorem dX0_trySheets_2 : decode cX0_trySheets 2 = .ok (.getfield 9, 3) := by decide +kernel
theorem dX0_trySheets_5 : decode cX0_trySheets 5 = .ok (.iload_n 2, 1) := by decide +kernel
theorem dX0_trySheets_6 : decode cX0_trySheets 6 = .ok (.invokevirtual 64, 3) := by decide +kernel
theorem dX0_trySheets_9 : decode cX0_trySheets 9 = .ok (.iadd, 1) := by decide +kernel
theorem dX0_trySheets_10 : decode cX0_trySheets 10 = .ok (.istore_n 3, 1) := by decide +kernel
theorem dX0_trySheets_11 : decode cX0_trySheets 11 = .ok (.iload_n 1, 1) := by decide +kernel
theorem dX0_trySheets_12 : decode cX0_trySheets 12 = .ok (.ifCond .lt 28, 3) := by decide +kernel
theorem dX0_trySheets_15 : decode cX0_trySheets 15 = .ok (.iload_n 3, 1) := by decide +kernel
theorem dX0_trySheets_16 : decode cX0_trySheets 16 = .ok (.iload_n 1, 1) := by decide +kernel
theorem dX0_trySheets_17 : decode cX0_trySheets 17 = .ok (.if_icmp .le 23, 3) := by decide +kernel
theorem dX0_trySheets_20 : decode cX0_trySheets 20 = .ok (.iload_n 3, 1) := by decide +kernel
theorem dX0_trySheets_21 : decode cX0_trySheets 21 = .ok (.aload_n 0, 1) := by decide +kernel
theorem dX0_trySheets_22 : decode cX0_trySheets 22 = .ok (.getfield 15, 3) := by decide +kernel
theorem dX0_trySheets_25 : decode cX0_trySheets 25 = .ok (.getfield 87, 3) := by decide +kernel
theorem dX0_trySheets_28 : decode cX0_trySheets 28 = .ok (.if_icmp .gt 12, 3) := by decide +kernel
theorem dX0_trySheets_31 : decode cX0_trySheets 31 = .ok (.iload_n 3, 1) := by decide +kernel
theorem dX0_trySheets_32 : decode cX0_trySheets 32 = .ok (.aload_n 0, 1) := by decide +kernel
theorem dX0_trySheets_33 : decode cX0_trySheets 33 = .ok (.getfield 30, 3) := by decide +kernel
theorem dX0_trySheets_36 : decode cX0_trySheets 36 = .ok (.arraylength, 1) := by decide +kernel
theorem dX0_trySheets_37 : decode cX0_trySheets 37 = .ok (.if_icmp .lt 4, 3) := by decide +kernel
theorem dX0_trySheets_40 : decode cX0_trySheets 40 = .ok (.return_, 1) := by decide +kernel
theorem dX0_trySheets_41 : decode cX0_trySheets 41 = .ok (.aload_n 0, 1) := by decide +kernel
theorem dX0_trySheets_42 : decode cX0_trySheets 42 = .ok (.getfield 24, 3) := by decide +kernel
theorem dX0_trySheets_45 : decode cX0_trySheets 45 = .ok (.iload_n 3, 1) := by decide +kernel
theorem dX0_trySheets_46 : decode cX0_trySheets 46 = .ok (.invokevirtual 70, 3) := by decide +kernel
theorem dX0_trySheets_49 : decode cX0_trySheets 49 = .ok (.aload_n 0, 1) := by decide +kernel
theorem dX0_trySheets_50 : decode cX0_trySheets 50 = .ok (.getfield 9, 3) := by decide +kernel
theorem dX0_trySheets_53 : decode cX0_trySheets 53 = .ok (.iload_n 2, 1) := by decide +kernel
theorem dX0_trySheets_54 : decode cX0_trySheets 54 = .ok (.invokevirtual 106, 3) := by decide +kernel
theorem dX0_trySheets_57 : decode cX0_trySheets 57 = .ok (.aload_n 0, 1) := by decide +kernel
theorem dX0_trySheets_58 : decode cX0_trySheets 58 = .ok (.getfield 30, 3) := by decide +kernel
theorem dX0_trySheets_61 : decode cX0_trySheets 61 = .ok (.iload_n 3, 1) := by decide +kernel
theorem dX0_trySheets_62 : decode cX0_trySheets 62 = .ok (.iaload, 1) := by decide +kernel
theorem dX0_trySheets_63 : decode cX0_trySheets 63 = .ok (.iadd, 1) := by decide +kernel
theorem dX0_trySheets_64 : decode cX0_trySheets 64 = .ok (.istore 4, 2) := by decide +kernel
theorem dX0_trySheets_66 : decode cX0_trySheets 66 = .ok (.iconst 1, 1) := by decide +kernel
theorem dX0_trySheets_67 : decode cX0_trySheets 67 = .ok (.aload_n 0, 1) := by decide +kernel
theorem dX0_trySheets_68 : decode cX0_trySheets 68 = .ok (.getfield 34, 3) := by decide +kernel
theorem dX0_trySheets_71 : decode cX0_trySheets 71 = .ok (.iload_n 3, 1) := by decide +kernel
theorem dX0_trySheets_72 : decode cX0_trySheets 72 = .ok (.iaload, 1) := by decide +kernel
theorem dX0_trySheets_73 : decode cX0_trySheets 73 = .ok (.iadd, 1) := by decide +kernel
theorem dX0_trySheets_74 : decode cX0_trySheets 74 = .ok (.istore 5, 2) := by decide +kernel
theorem dX0_trySheets_76 : decode cX0_trySheets 76 = .ok (.iconst 0, 1) := by decide +kernel
theorem dX0_trySheets_77 : decode cX0_trySheets 77 = .ok (.istore 6, 2) := by decide +kernel
theorem dX0_trySheets_79 : decode cX0_trySheets 79 = .ok (.iload 6, 2) := by decide +kernel
theorem dX0_trySheets_81 : decode cX0_trySheets 81 = .ok (.aload_n 0, 1) := by decide +kernel
theorem dX0_trySheets_82 : decode cX0_trySheets 82 = .ok (.getfield 46, 3) := by decide +kernel
theorem dX0_trySheets_85 : decode cX0_trySheets 85 = .ok (.if_icmp .gt 72, 3) := by decide +kernel
theorem dX0_trySheets_88 : decode cX0_trySheets 88 = .ok (.aload_n 0, 1) := by decide +kernel
theorem dX0_trySheets_89 : decode cX0_trySheets 89 = .ok (.iload_n 1, 1) := by decide +kernel
theorem dX0_trySheets_90 : decode cX0_trySheets 90 = .ok (.iload 4, 2) := by decide +kernel
theorem dX0_trySheets_92 : decode cX0_trySheets 92 = .ok (.iload 5, 2) := by decide +kernel
theorem dX0_trySheets_94 : decode cX0_trySheets 94 = .ok (.invokevirtual 109, 3) := by decide +kernel
theorem dX0_trySheets_97 : decode cX0_trySheets 97 = .ok (.ifCond .eq 60, 3) := by decide +kernel
theorem dX0_trySheets_100 : decode cX0_trySheets 100 = .ok (.aload_n 0, 1) := by decide +kernel
theorem dX0_trySheets_101 : decode cX0_trySheets 101 = .ok (.iload_n 2, 1) := by decide +kernel
theorem dX0_trySheets_102 : decode cX0_trySheets 102 = .ok (.iload 6, 2) := by decide +kernel
theorem dX0_trySheets_104 : decode cX0_trySheets 104 = .ok (.invokevirtual 73, 3) := by decide +kernel
theorem dX0_trySheets_107 : decode cX0_trySheets 107 = .ok (.ifCond .eq 35, 3) := by decide +kernel
theorem dX0_trySheets_110 : decode cX0_trySheets 110 = .ok (.aload_n 0, 1) := by decide +kernel
theorem dX0_trySheets_111 : decode cX0_trySheets 111 = .ok (.getfield 30, 3) := by decide +kernel
theorem dX0_trySheets_114 : decode cX0_trySheets 114 = .ok (.iload_n 1, 1) := by decide +kernel
theorem dX0_trySheets_115 : decode cX0_trySheets 115 = .ok (.iload 4, 2) := by decide +kernel
theorem dX0_trySheets_117 : decode cX0_trySheets 117 = .ok (.iastore, 1) := by decide +kernel
theorem dX0_trySheets_118 : decode cX0_trySheets 118 = .ok (.aload_n 0, 1) := by decide +kernel
theorem dX0_trySheets_119 : decode cX0_trySheets 119 = .ok (.getfield 34, 3) := by decide +kernel
theorem dX0_trySheets_122 : decode cX0_trySheets 122 = .ok (.iload_n 1, 1) := by decide +kernel
theorem dX0_trySheets_123 : decode cX0_trySheets 123 = .ok (.iload 5, 2) := by decide +kernel
theorem dX0_trySheets_125 : decode cX0_trySheets 125 = .ok (.iastore, 1) := by decide +kernel
theorem dX0_trySheets_126 : decode cX0_trySheets 126 = .ok (.aload_n 0, 1) := by decide +kernel
theorem dX0_trySheets_127 : decode cX0_trySheets 127 = .ok (.getfield 37, 3) := by decide +kernel
theorem dX0_trySheets_130 : decode cX0_trySheets 130 = .ok (.iload_n 1, 1) := by decide +kernel
theorem dX0_trySheets_131 : decode cX0_trySheets 131 = .ok (.iload_n 2, 1) := by decide +kernel
theorem dX0_trySheets_132 : decode cX0_trySheets 132 = .ok (.iastore, 1) := by decide +kernel
theorem dX0_trySheets_133 : decode cX0_trySheets 133 = .ok (.aload_n 0, 1) := by decide +kernel
theorem dX0_trySheets_134 : decode cX0_trySheets 134 = .ok (.getfield 40, 3) := by decide +kernel
theorem dX0_trySheets_137 : decode cX0_trySheets 137 = .ok (.iload_n 1, 1) := by decide +kernel
theorem dX0_trySheets_138 : decode cX0_trySheets 138 = .ok (.iload 6, 2) := by decide +kernel
theorem dX0_trySheets_140 : decode cX0_trySheets 140 = .ok (.iastore, 1) := by decide +kernel
theorem dX0_trySheets_141 : decode cX0_trySheets 141 = .ok (.return_, 1) := by decide +kernel
theorem dX0_trySheets_142 : decode cX0_trySheets 142 = .ok (.iload 4, 2) := by decide +kernel
theorem dX0_trySheets_144 : decode cX0_trySheets 144 = .ok (.aload_n 0, 1) := by decide +kernel
theorem dX0_trySheets_145 : decode cX0_trySheets 145 = .ok (.getfield 50, 3) := by decide +kernel
theorem dX0_trySheets_148 : decode cX0_trySheets 148 = .ok (.isub, 1) := by decide +kernel
theorem dX0_trySheets_149 : decode cX0_trySheets 149 = .ok (.istore 4, 2) := by decide +kernel
theorem dX0_trySheets_151 : decode cX0_trySheets 151 = .ok (.iinc 6 1, 3) := by decide +kernel
theorem dX0_trySheets_154 : decode cX0_trySheets 154 = .ok (.goto (-75), 3) := by decide +kernel
theorem dX0_trySheets_157 : decode cX0_trySheets 157 = .ok (.return_, 1) := by decide +kernel
theorem dX0_isBetter_0 : decode cX0_isBetter 0 = .ok (.iload_n 1, 1) := by decide +kernel
theorem dX0_isBetter_1 : decode cX0_isBetter 1 = .ok (.ifCond .lt 12, 3) := by decide +kernel
theorem dX0_isBetter_4 : decode cX0_isBetter 4 = .ok (.iload_n 1, 1) := by decide +kernel
theorem dX0_isBetter_5 : decode cX0_isBetter 5 = .ok (.aload_n 0, 1) := by decide +kernel
theorem dX0_isBetter_6 : decode cX0_isBetter 6 = .ok (.getfield 30, 3) := by decide +kernel
theorem dX0_isBetter_9 : decode cX0_isBetter 9 = .ok (.arraylength, 1) := by decide +kernel
theorem dX0_isBetter_10 : decode cX0_isBetter 10 = .ok (.if_icmp .lt 5, 3) := by decide +kernel
theorem dX0_isBetter_13 : decode cX0_isBetter 13 = .ok (.iconst 0, 1) := by decide +kernel
theorem dX0_isBetter_14 : decode cX0_isBetter 14 = .ok (.ireturn, 1) := by decide +kernel
theorem dX0_isBetter_15 : decode cX0_isBetter 15 = .ok (.iload_n 2, 1) := by decide +kernel
theorem dX0_isBetter_16 : decode cX0_isBetter 16 = .ok (.aload_n 0, 1) := by decide +kernel
theorem dX0_isBetter_17 : decode cX0_isBetter 17 = .ok (.getfield 30, 3) := by decide +kernel
theorem dX0_isBetter_20 : decode cX0_isBetter 20 = .ok (.iload_n 1, 1) := by decide +kernel
theorem dX0_isBetter_21 : decode cX0_isBetter 21 = .ok (.iaload, 1) := by decide +kernel
theorem dX0_isBetter_22 : decode cX0_isBetter 22 = .ok (.if_icmp .eq 19, 3) := by decide +kernel
theorem dX0_isBetter_25 : decode cX0_isBetter 25 = .ok (.iload_n 2, 1) := by decide +kernel
theorem dX0_isBetter_26 : decode cX0_isBetter 26 = .ok (.aload_n 0, 1) := by decide +kernel
theorem dX0_isBetter_27 : decode cX0_isBetter 27 = .ok (.getfield 30, 3) := by decide +kernel
theorem dX0_isBetter_30 : decode cX0_isBetter 30 = .ok (.iload_n 1, 1) := by decide +kernel
theorem dX0_isBetter_31 : decode cX0_isBetter 31 = .ok (.iaload, 1) := by decide +kernel
theorem dX0_isBetter_32 : decode cX0_isBetter 32 = .ok (.if_icmp .le 7, 3) := by decide +kernel
theorem dX0_isBetter_35 : decode cX0_isBetter 35 = .ok (.iconst 1, 1) := by decide +kernel
theorem dX0_isBetter_36 : decode cX0_isBetter 36 = .ok (.goto 4, 3) := by decide +kernel
theorem dX0_isBetter_39 : decode cX0_isBetter 39 = .ok (.iconst 0, 1) := by decide +kernel
theorem dX0_isBetter_40 : decode cX0_isBetter 40 = .ok (.ireturn, 1) := by decide +kernel
theorem dX0_isBetter_41 : decode cX0_isBetter 41 = .ok (.iload_n 3, 1) := by decide +kernel
theorem dX0_isBetter_42 : decode cX0_isBetter 42 = .ok (.aload_n 0, 1) := by decide +kernel
theorem dX0_isBetter_43 : decode cX0_isBetter 43 = .ok (.getfield 34, 3) := by decide +kernel
theorem dX0_isBetter_46 : decode cX0_isBetter 46 = .ok (.iload_n 1, 1) := by decide +kernel
theorem dX0_isBetter_47 : decode cX0_isBetter 47 = .ok (.iaload, 1) := by decide +kernel
theorem dX0_isBetter_48 : decode cX0_isBetter 48 = .ok (.if_icmp .eq 19, 3) := by decide +kernel
theorem dX0_isBetter_51 : decode cX0_isBetter 51 = .ok (.iload_n 3, 1) := by decide +kernel
theorem dX0_isBetter_52 : decode cX0_isBetter 52 = .ok (.aload_n 0, 1) := by decide +kernel
theorem dX0_isBetter_53 : decode cX0_isBetter 53 = .ok (.getfield 34, 3) := by decide +kernel
theorem dX0_isBetter_56 : decode cX0_isBetter 56 = .ok (.iload_n 1, 1) := by decide +kernel
theorem dX0_isBetter_57 : decode cX0_isBetter 57 = .ok (.iaload, 1) := by decide +kernel
theorem dX0_isBetter_58 : decode cX0_isBetter 58 = .ok (.if_icmp .ge 7, 3) := by decide +kernel
theorem dX0_isBetter_61 : decode cX0_isBetter 61 = .ok (.iconst 1, 1) := by decide +kernel
theorem dX0_isBetter_62 : decode cX0_isBetter 62 = .ok (.goto 4, 3) := by decide +kernel
theorem dX0_isBetter_65 : decode cX0_isBetter 65 = .ok (.iconst 0, 1) := by decide +kernel
theorem dX0_isBetter_66 : decode cX0_isBetter 66 = .ok (.ireturn, 1) := by decide +kernel
theorem dX0_isBetter_67 : decode cX0_isBetter 67 = .ok (.aload_n 0, 1) := by decide +kernel
theorem dX0_isBetter_68 : decode cX0_isBetter 68 = .ok (.getfield 37, 3) := by decide +kernel
theorem dX0_isBetter_71 : decode cX0_isBetter 71 = .ok (.iload_n 1, 1) := by decide +kernel
theorem dX0_isBetter_72 : decode cX0_isBetter 72 = .ok (.iaload, 1) := by decide +kernel
theorem dX0_isBetter_73 : decode cX0_isBetter 73 = .ok (.iconst (-1), 1) := by decide +kernel
theorem dX0_isBetter_74 : decode cX0_isBetter 74 = .ok (.if_icmp .ne 7, 3) := by decide +kernel
theorem dX0_isBetter_77 : decode cX0_isBetter 77 = .ok (.iconst 1, 1) := by decide +kernel
theorem dX0_isBetter_78 : decode cX0_isBetter 78 = .ok (.goto 4, 3) := by decide +kernel
theorem dX0_isBetter_81 : decode cX0_isBetter 81 = .ok (.iconst 0, 1) := by decide +kernel
theorem dX0_isBetter_82 : decode cX0_isBetter 82 = .ok (.ireturn, 1) := by decide +kernel
theorem dX0_listSheets_0 : decode cX0_listSheets 0 = .ok (.aload_n 0, 1) := by decide +kernel
theorem dX0_listSheets_1 : decode cX0_listSheets 1 = .ok (.iconst 0, 1) := by decide +kernel
theorem dX0_listSheets_2 : decode cX0_listSheets 2 = .ok (.putfield 53, 3) := by decide +kernel
theorem dX0_listSheets_5 : decode cX0_listSheets 5 = .ok (.iconst 0, 1) := by decide +kernel
theorem dX0_listSheets_6 : decode cX0_listSheets 6 = .ok (.istore_n 2, 1) := by decide +kernel
theorem dX0_listSheets_7 : decode cX0_listSheets 7 = .ok (.iconst 0, 1) := by decide +kernel
theorem dX0_listSheets_8 : decode cX0_listSheets 8 = .ok (.istore_n 3, 1) := by decide +kernel
theorem dX0_listSheets_9 : decode cX0_listSheets 9 = .ok (.iload_n 3, 1) := by decide +kernel
theorem dX0_listSheets_10 : decode cX0_listSheets 10 = .ok (.iload_n 1, 1) := by decide +kernel
theorem dX0_listSheets_11 : decode cX0_listSheets 11 = .ok (.if_icmp .ge 75, 3) := by decide +kernel
theorem dX0_listSheets_14 : decode cX0_listSheets 14 = .ok (.iload_n 3, 1) := by decide +kernel
theorem dX0_listSheets_15 : decode cX0_listSheets 15 = .ok (.iload_n 2, 1) := by decide +kernel
theorem dX0_listSheets_16 : decode cX0_listSheets 16 = .ok (.if_icmp .lt 64, 3) := by decide +kernel
theorem dX0_listSheets_19 : decode cX0_listSheets 19 = .ok (.aload_n 0, 1) := by decide +kernel
theorem dX0_listSheets_20 : decode cX0_listSheets 20 = .ok (.getfield 37, 3) := by decide +kernel
theorem dX0_listSheets_23 : decode cX0_listSheets 23 = .ok (.iload_n 3, 1) := by decide +kernel
theorem dX0_listSheets_24 : decode cX0_listSheets 24 = .ok (.iaload, 1) := by decide +kernel
theorem dX0_listSheets_25 : decode cX0_listSheets 25 = .ok (.iconst (-1), 1) := by decide +kernel
theorem dX0_listSheets_26 : decode cX0_listSheets 26 = .ok (.if_icmp .eq 54, 3) := by decide +kernel
theorem dX0_listSheets_29 : decode cX0_listSheets 29 = .ok (.aload_n 0, 1) := by decide +kernel
theorem dX0_listSheets_30 : decode cX0_listSheets 30 = .ok (.getfield 53, 3) := by decide +kernel
theorem dX0_listSheets_33 : decode cX0_listSheets 33 = .ok (.aload_n 0, 1) := by decide +kernel
theorem dX0_listSheets_34 : decode cX0_listSheets 34 = .ok (.getfield 43, 3) := by decide +kernel
theorem dX0_listSheets_37 : decode cX0_listSheets 37 = .ok (.arraylength, 1) := by decide +kernel
theorem dX0_listSheets_38 : decode cX0_listSheets 38 = .ok (.if_icmp .lt 6, 3) := by decide +kernel
theorem dX0_listSheets_41 : decode cX0_listSheets 41 = .ok (.goto 39, 3) := by decide +kernel
theorem dX0_listSheets_44 : decode cX0_listSheets 44 = .ok (.aload_n 0, 1) := by decide +kernel
theorem dX0_listSheets_45 : decode cX0_listSheets 45 = .ok (.getfield 43, 3) := by decide +kernel
theorem dX0_listSheets_48 : decode cX0_listSheets 48 = .ok (.aload_n 0, 1) := by decide +kernel
theorem dX0_listSheets_49 : decode cX0_listSheets 49 = .ok (.getfield 53, 3) := by decide +kernel
theorem dX0_listSheets_52 : decode cX0_listSheets 52 = .ok (.iload_n 3, 1) := by decide +kernel
theorem dX0_listSheets_53 : decode cX0_listSheets 53 = .ok (.iastore, 1) := by decide +kernel
theorem dX0_listSheets_54 : decode cX0_listSheets 54 = .ok (.aload_n 0, 1) := by decide +kernel
theorem dX0_listSheets_55 : decode cX0_listSheets 55 = .ok (.dup, 1) := by decide +kernel
theorem dX0_listSheets_56 : decode cX0_listSheets 56 = .ok (.getfield 53, 3) := by decide +kernel
theorem dX0_listSheets_59 : decode cX0_listSheets 59 = .ok (.iconst 1, 1) := by decide +kernel
theorem dX0_listSheets_60 : decode cX0_listSheets 60 = .ok (.iadd, 1) := by decide +kernel
theorem dX0_listSheets_61 : decode cX0_listSheets 61 = .ok (.putfield 53, 3) := by decide +kernel
theorem dX0_listSheets_64 : decode cX0_listSheets 64 = .ok (.iload_n 3, 1) := by decide +kernel
theorem dX0_listSheets_65 : decode cX0_listSheets 65 = .ok (.aload_n 0, 1) := by decide +kernel
theorem dX0_listSheets_66 : decode cX0_listSheets 66 = .ok (.getfield 9, 3) := by decide +kernel
theorem dX0_listSheets_69 : decode cX0_listSheets 69 = .ok (.aload_n 0, 1) := by decide +kernel
theorem dX0_listSheets_70 : decode cX0_listSheets 70 = .ok (.getfield 37, 3) := by decide +kernel
theorem dX0_listSheets_73 : decode cX0_listSheets 73 = .ok (.iload_n 3, 1) := by decide +kernel
theorem dX0_listSheets_74 : decode cX0_listSheets 74 = .ok (.iaload, 1) := by decide +kernel
theorem dX0_listSheets_75 : decode cX0_listSheets 75 = .ok (.invokevirtual 64, 3) := by decide +kernel
theorem dX0_listSheets_78 : decode cX0_listSheets 78 = .ok (.iadd, 1) := by decide +kernel
theorem dX0_listSheets_79 : decode cX0_listSheets 79 = .ok (.istore_n 2, 1) := by decide +kernel
theorem dX0_listSheets_80 : decode cX0_listSheets 80 = .ok (.iinc 3 1, 3) := by decide +kernel
theorem dX0_listSheets_83 : decode cX0_listSheets 83 = .ok (.goto (-74), 3) := by decide +kernel
theorem dX0_listSheets_86 : decode cX0_listSheets 86 = .ok (.return_, 1) := by decide +kernel
theorem dX0_totalWorth_0 : decode cX0_totalWorth 0 = .ok (.aload_n 0, 1) := by decide +kernel
theorem dX0_totalWorth_1 : decode cX0_totalWorth 1 = .ok (.getfield 30, 3) := by decide +kernel
theorem dX0_totalWorth_4 : decode cX0_totalWorth 4 = .ok (.iconst 0, 1) := by decide +kernel
theorem dX0_totalWorth_5 : decode cX0_totalWorth 5 = .ok (.iaload, 1) := by decide +kernel
theorem dX0_totalWorth_6 : decode cX0_totalWorth 6 = .ok (.ireturn, 1) := by decide +kernel
theorem dX0_tell_0 : decode cX0_tell 0 = .ok (.iload_n 1, 1) := by decide +kernel
theorem dX0_tell_1 : decode cX0_tell 1 = .ok (.ifCond .lt 20, 3) := by decide +kernel
theorem dX0_tell_4 : decode cX0_tell 4 = .ok (.iload_n 1, 1) := by decide +kernel
theorem dX0_tell_5 : decode cX0_tell 5 = .ok (.aload_n 0, 1) := by decide +kernel
theorem dX0_tell_6 : decode cX0_tell 6 = .ok (.getfield 53, 3) := by decide +kernel
theorem dX0_tell_9 : decode cX0_tell 9 = .ok (.if_icmp .ge 12, 3) := by decide +kernel
theorem dX0_tell_12 : decode cX0_tell 12 = .ok (.iload_n 1, 1) := by decide +kernel
theorem dX0_tell_13 : decode cX0_tell 13 = .ok (.aload_n 0, 1) := by decide +kernel
theorem dX0_tell_14 : decode cX0_tell 14 = .ok (.getfield 43, 3) := by decide +kernel
theorem dX0_tell_17 : decode cX0_tell 17 = .ok (.arraylength, 1) := by decide +kernel
theorem dX0_tell_18 : decode cX0_tell 18 = .ok (.if_icmp .lt 5, 3) := by decide +kernel
theorem dX0_tell_21 : decode cX0_tell 21 = .ok (.iconst (-1), 1) := by decide +kernel
theorem dX0_tell_22 : decode cX0_tell 22 = .ok (.ireturn, 1) := by decide +kernel
theorem dX0_tell_23 : decode cX0_tell 23 = .ok (.aload_n 0, 1) := by decide +kernel
theorem dX0_tell_24 : decode cX0_tell 24 = .ok (.getfield 43, 3) := by decide +kernel
theorem dX0_tell_27 : decode cX0_tell 27 = .ok (.iload_n 1, 1) := by decide +kernel
theorem dX0_tell_28 : decode cX0_tell 28 = .ok (.iaload, 1) := by decide +kernel
theorem dX0_tell_29 : decode cX0_tell 29 = .ok (.istore_n 3, 1) := by decide +kernel
theorem dX0_tell_30 : decode cX0_tell 30 = .ok (.iload_n 3, 1) := by decide +kernel
theorem dX0_tell_31 : decode cX0_tell 31 = .ok (.ifCond .lt 12, 3) := by decide +kernel
theorem dX0_tell_34 : decode cX0_tell 34 = .ok (.iload_n 3, 1) := by decide +kernel
theorem dX0_tell_35 : decode cX0_tell 35 = .ok (.aload_n 0, 1) := by decide +kernel
theorem dX0_tell_36 : decode cX0_tell 36 = .ok (.getfield 37, 3) := by decide +kernel
theorem dX0_tell_39 : decode cX0_tell 39 = .ok (.arraylength, 1) := by decide +kernel
theorem dX0_tell_40 : decode cX0_tell 40 = .ok (.if_icmp .lt 5, 3) := by decide +kernel
theorem dX0_tell_43 : decode cX0_tell 43 = .ok (.iconst (-1), 1) := by decide +kernel
theorem dX0_tell_44 : decode cX0_tell 44 = .ok (.ireturn, 1) := by decide +kernel
theorem dX0_tell_45 : decode cX0_tell 45 = .ok (.iload_n 2, 1) := by decide +kernel
theorem dX0_tell_46 : decode cX0_tell 46 = .ok (.tableswitch 42 0 2 #[26, 28, 35], 26) := by decide +kernel
theorem dX0_tell_72 : decode cX0_tell 72 = .ok (.iload_n 3, 1) := by decide +kernel
theorem dX0_tell_73 : decode cX0_tell 73 = .ok (.ireturn, 1) := by decide +kernel
theorem dX0_tell_74 : decode cX0_tell 74 = .ok (.aload_n 0, 1) := by decide +kernel
theorem dX0_tell_75 : decode cX0_tell 75 = .ok (.getfield 37, 3) := by decide +kernel
theorem dX0_tell_78 : decode cX0_tell 78 = .ok (.iload_n 3, 1) := by decide +kernel
theorem dX0_tell_79 : decode cX0_tell 79 = .ok (.iaload, 1) := by decide +kernel
theorem dX0_tell_80 : decode cX0_tell 80 = .ok (.ireturn, 1) := by decide +kernel
theorem dX0_tell_81 : decode cX0_tell 81 = .ok (.aload_n 0, 1) := by decide +kernel
theorem dX0_tell_82 : decode cX0_tell 82 = .ok (.getfield 40, 3) := by decide +kernel
theorem dX0_tell_85 : decode cX0_tell 85 = .ok (.iload_n 3, 1) := by decide +kernel
theorem dX0_tell_86 : decode cX0_tell 86 = .ok (.iaload, 1) := by decide +kernel
theorem dX0_tell_87 : decode cX0_tell 87 = .ok (.ireturn, 1) := by decide +kernel
theorem dX0_tell_88 : decode cX0_tell 88 = .ok (.iconst (-1), 1) := by decide +kernel
theorem dX0_tell_89 : decode cX0_tell 89 = .ok (.ireturn, 1) := by decide +kernel
theorem dX1_init_0 : decode cX1_init 0 = .ok (.aload_n 0, 1) := by decide +kernel
theorem dX1_init_1 : decode cX1_init 1 = .ok (.invokespecial 3, 3) := by decide +kernel
theorem dX1_init_4 : decode cX1_init 4 = .ok (.aload_n 0, 1) := by decide +kernel
theorem dX1_init_5 : decode cX1_init 5 = .ok (.new 9, 3) := by decide +kernel
theorem dX1_init_8 : decode cX1_init 8 = .ok (.dup, 1) := by decide +kernel
theorem dX1_init_9 : decode cX1_init 9 = .ok (.invokespecial 11, 3) := by decide +kernel
theorem dX1_init_12 : decode cX1_init 12 = .ok (.putfield 12, 3) := by decide +kernel
theorem dX1_init_15 : decode cX1_init 15 = .ok (.aload_n 0, 1) := by decide +kernel
theorem dX1_init_16 : decode cX1_init 16 = .ok (.new 18, 3) := by decide +kernel
theorem dX1_init_19 : decode cX1_init 19 = .ok (.dup, 1) := by decide +kernel
theorem dX1_init_20 : decode cX1_init 20 = .ok (.invokespecial 20, 3) := by decide +kernel
theorem dX1_init_23 : decode cX1_init 23 = .ok (.putfield 21, 3) := by decide +kernel
theorem dX1_init_26 : decode cX1_init 26 = .ok (.aload_n 0, 1) := by decide +kernel
theorem dX1_init_27 : decode cX1_init 27 = .ok (.iconst 0, 1) := by decide +kernel
theorem dX1_init_28 : decode cX1_init 28 = .ok (.putfield 25, 3) := by decide +kernel
theorem dX1_init_31 : decode cX1_init 31 = .ok (.return_, 1) := by decide +kernel
theorem dX1_readLines_0 : decode cX1_readLines 0 = .ok (.aload_n 0, 1) := by decide +kernel
theorem dX1_readLines_1 : decode cX1_readLines 1 = .ok (.getfield 12, 3) := by decide +kernel
theorem dX1_readLines_4 : decode cX1_readLines 4 = .ok (.aload_n 1, 1) := by decide +kernel
theorem dX1_readLines_5 : decode cX1_readLines 5 = .ok (.invokevirtual 29, 3) := by decide +kernel
theorem dX1_readLines_8 : decode cX1_readLines 8 = .ok (.aload_n 0, 1) := by decide +kernel
theorem dX1_readLines_9 : decode cX1_readLines 9 = .ok (.getfield 21, 3) := by decide +kernel
theorem dX1_readLines_12 : decode cX1_readLines 12 = .ok (.invokevirtual 33, 3) := by decide +kernel
theorem dX1_readLines_15 : decode cX1_readLines 15 = .ok (.aload_n 0, 1) := by decide +kernel
theorem dX1_readLines_16 : decode cX1_readLines 16 = .ok (.iconst 0, 1) := by decide +kernel
theorem dX1_readLines_17 : decode cX1_readLines 17 = .ok (.putfield 25, 3) := by decide +kernel
theorem dX1_readLines_20 : decode cX1_readLines 20 = .ok (.aload_n 0, 1) := by decide +kernel
theorem dX1_readLines_21 : decode cX1_readLines 21 = .ok (.iconst 0, 1) := by decide +kernel
theorem dX1_readLines_22 : decode cX1_readLines 22 = .ok (.putfield 36, 3) := by decide +kernel
theorem dX1_readLines_25 : decode cX1_readLines 25 = .ok (.aload_n 0, 1) := by decide +kernel
theorem dX1_readLines_26 : decode cX1_readLines 26 = .ok (.iconst (-1), 1) := by decide +kernel
theorem dX1_readLines_27 : decode cX1_readLines 27 = .ok (.putfield 39, 3) := by decide +kernel
theorem dX1_readLines_30 : decode cX1_readLines 30 = .ok (.aload_n 0, 1) := by decide +kernel
theorem dX1_readLines_31 : decode cX1_readLines 31 = .ok (.invokevirtual 42, 3) := by decide +kernel
theorem dX1_readLines_34 : decode cX1_readLines 34 = .ok (.iconst 0, 1) := by decide +kernel
theorem dX1_readLines_35 : decode cX1_readLines 35 = .ok (.istore_n 2, 1) := by decide +kernel
theorem dX1_readLines_36 : decode cX1_readLines 36 = .ok (.iload_n 2, 1) := by decide +kernel
theorem dX1_readLines_37 : decode cX1_readLines 37 = .ok (.bipush 8, 2) := by decide +kernel
theorem dX1_readLines_39 : decode cX1_readLines 39 = .ok (.if_icmp .ge 27, 3) := by decide +kernel
theorem dX1_readLines_42 : decode cX1_readLines 42 = .ok (.aload_n 0, 1) := by decide +kernel
theorem dX1_readLines_43 : decode cX1_readLines 43 = .ok (.getfield 45, 3) := by decide +kernel
theorem dX1_readLines_46 : decode cX1_readLines 46 = .ok (.bipush (-22), 2) := by decide +kernel
theorem dX1_readLines_48 : decode cX1_readLines 48 = .ok (.if_icmp .eq 18, 3) := by decide +kernel
theorem dX1_readLines_51 : decode cX1_readLines 51 = .ok (.aload_n 0, 1) := by decide +kernel
theorem dX1_readLines_52 : decode cX1_readLines 52 = .ok (.invokevirtual 48, 3) := by decide +kernel
theorem dX1_readLines_55 : decode cX1_readLines 55 = .ok (.ifCond .ne 5, 3) := by decide +kernel
theorem dX1_readLines_58 : decode cX1_readLines 58 = .ok (.iconst 0, 1) := by decide +kernel
theorem dX1_readLines_59 : decode cX1_readLines 59 = .ok (.ireturn, 1) := by decide +kernel
theorem dX1_readLines_60 : decode cX1_readLines 60 = .ok (.iinc 2 1, 3) := by decide +kernel
theorem dX1_readLines_63 : decode cX1_readLines 63 = .ok (.goto (-27), 3) := by decide +kernel
theorem dX1_readLines_66 : decode cX1_readLines 66 = .ok (.aload_n 0, 1) := by decide +kernel
theorem dX1_readLines_67 : decode cX1_readLines 67 = .ok (.getfield 45, 3) := by decide +kernel
theorem dX1_readLines_70 : decode cX1_readLines 70 = .ok (.bipush (-22), 2) := by decide +kernel
theorem dX1_readLines_72 : decode cX1_readLines 72 = .ok (.if_icmp .eq 10, 3) := by decide +kernel
theorem dX1_readLines_75 : decode cX1_readLines 75 = .ok (.aload_n 0, 1) := by decide +kernel
theorem dX1_readLines_76 : decode cX1_readLines 76 = .ok (.invokevirtual 52, 3) := by decide +kernel
theorem dX1_readLines_79 : decode cX1_readLines 79 = .ok (.ifCond .eq 7, 3) := by decide +kernel
theorem dX1_readLines_82 : decode cX1_readLines 82 = .ok (.iconst 1, 1) := by decide +kernel
theorem dX1_readLines_83 : decode cX1_readLines 83 = .ok (.goto 4, 3) := by decide +kernel
theorem dX1_readLines_86 : decode cX1_readLines 86 = .ok (.iconst 0, 1) := by decide +kernel
theorem dX1_readLines_87 : decode cX1_readLines 87 = .ok (.ireturn, 1) := by decide +kernel
theorem dX1_readLine_0 : decode cX1_readLine 0 = .ok (.aload_n 0, 1) := by decide +kernel
theorem dX1_readLine_1 : decode cX1_readLine 1 = .ok (.bipush (-17), 2) := by decide +kernel
theorem dX1_readLine_3 : decode cX1_readLine 3 = .ok (.invokevirtual 55, 3) := by decide +kernel
theorem dX1_readLine_6 : decode cX1_readLine 6 = .ok (.ifCond .ne 5, 3) := by decide +kernel
theorem dX1_readLine_9 : decode cX1_readLine 9 = .ok (.iconst 0, 1) := by decide +kernel
theorem dX1_readLine_10 : decode cX1_readLine 10 = .ok (.ireturn, 1) := by decide +kernel
theorem dX1_readLine_11 : decode cX1_readLine 11 = .ok (.aload_n 0, 1) := by decide +kernel
theorem dX1_readLine_12 : decode cX1_readLine 12 = .ok (.getfield 45, 3) := by decide +kernel
theorem dX1_readLine_15 : decode cX1_readLine 15 = .ok (.istore_n 1, 1) := by decide +kernel
theorem dX1_readLine_16 : decode cX1_readLine 16 = .ok (.aload_n 0, 1) := by decide +kernel
theorem dX1_readLine_17 : decode cX1_readLine 17 = .ok (.iconst 1, 1) := by decide +kernel
theorem dX1_readLine_18 : decode cX1_readLine 18 = .ok (.bipush 100, 2) := by decide +kernel
theorem dX1_readLine_20 : decode cX1_readLine 20 = .ok (.invokevirtual 59, 3) := by decide +kernel
theorem dX1_readLine_23 : decode cX1_readLine 23 = .ok (.ifCond .eq 12, 3) := by decide +kernel
theorem dX1_readLine_26 : decode cX1_readLine 26 = .ok (.aload_n 0, 1) := by decide +kernel
theorem dX1_readLine_27 : decode cX1_readLine 27 = .ok (.bipush (-18), 2) := by decide +kernel
theorem dX1_readLine_29 : decode cX1_readLine 29 = .ok (.invokevirtual 55, 3) := by decide +kernel
theorem dX1_readLine_32 : decode cX1_readLine 32 = .ok (.ifCond .ne 5, 3) := by decide +kernel
theorem dX1_readLine_35 : decode cX1_readLine 35 = .ok (.iconst 0, 1) := by decide +kernel
theorem dX1_readLine_36 : decode cX1_readLine 36 = .ok (.ireturn, 1) := by decide +kernel
theorem dX1_readLine_37 : decode cX1_readLine 37 = .ok (.aload_n 0, 1) := by decide +kernel
theorem dX1_readLine_38 : decode cX1_readLine 38 = .ok (.getfield 45, 3) := by decide +kernel
theorem dX1_readLine_41 : decode cX1_readLine 41 = .ok (.istore_n 2, 1) := by decide +kernel
theorem dX1_readLine_42 : decode cX1_readLine 42 = .ok (.aload_n 0, 1) := by decide +kernel
theorem dX1_readLine_43 : decode cX1_readLine 43 = .ok (.iconst 1, 1) := by decide +kernel
theorem dX1_readLine_44 : decode cX1_readLine 44 = .ok (.sipush 9999, 3) := by decide +kernel
theorem dX1_readLine_47 : decode cX1_readLine 47 = .ok (.invokevirtual 59, 3) := by decide +kernel
theorem dX1_readLine_50 : decode cX1_readLine 50 = .ok (.ifCond .ne 5, 3) := by decide +kernel
theorem dX1_readLine_53 : decode cX1_readLine 53 = .ok (.iconst 0, 1) := by decide +kernel
theorem dX1_readLine_54 : decode cX1_readLine 54 = .ok (.ireturn, 1) := by decide +kernel
theorem dX1_readLine_55 : decode cX1_readLine 55 = .ok (.aload_n 0, 1) := by decide +kernel
theorem dX1_readLine_56 : decode cX1_readLine 56 = .ok (.getfield 45, 3) := by decide +kernel
theorem dX1_readLine_59 : decode cX1_readLine 59 = .ok (.bipush (-19), 2) := by decide +kernel
theorem dX1_readLine_61 : decode cX1_readLine 61 = .ok (.if_icmp .ne 17, 3) := by decide +kernel
theorem dX1_readLine_64 : decode cX1_readLine 64 = .ok (.aload_n 0, 1) := by decide +kernel
theorem dX1_readLine_65 : decode cX1_readLine 65 = .ok (.invokevirtual 42, 3) := by decide +kernel
theorem dX1_readLine_68 : decode cX1_readLine 68 = .ok (.aload_n 0, 1) := by decide +kernel
theorem dX1_readLine_69 : decode cX1_readLine 69 = .ok (.iconst 0, 1) := by decide +kernel
theorem dX1_readLine_70 : decode cX1_readLine 70 = .ok (.invokevirtual 63, 3) := by decide +kernel
theorem dX1_readLine_73 : decode cX1_readLine 73 = .ok (.ifCond .ne 5, 3) := by decide +kernel
theorem dX1_readLine_76 : decode cX1_readLine 76 = .ok (.iconst 0, 1) := by decide +kernel
theorem dX1_readLine_77 : decode cX1_readLine 77 = .ok (.ireturn, 1) := by decide +kernel
theorem dX1_readLine_78 : decode cX1_readLine 78 = .ok (.aload_n 0, 1) := by decide +kernel
theorem dX1_readLine_79 : decode cX1_readLine 79 = .ok (.bipush (-16), 2) := by decide +kernel
theorem dX1_readLine_81 : decode cX1_readLine 81 = .ok (.invokevirtual 55, 3) := by decide +kernel
theorem dX1_readLine_84 : decode cX1_readLine 84 = .ok (.ifCond .ne 5, 3) := by decide +kernel
theorem dX1_readLine_87 : decode cX1_readLine 87 = .ok (.iconst 0, 1) := by decide +kernel
theorem dX1_readLine_88 : decode cX1_readLine 88 = .ok (.ireturn, 1) := by decide +kernel
theorem dX1_readLine_89 : decode cX1_readLine 89 = .ok (.aload_n 0, 1) := by decide +kernel
theorem dX1_readLine_90 : decode cX1_readLine 90 = .ok (.getfield 21, 3) := by decide +kernel
theorem dX1_readLine_93 : decode cX1_readLine 93 = .ok (.iload_n 1, 1) := by decide +kernel
theorem dX1_readLine_94 : decode cX1_readLine 94 = .ok (.iload_n 2, 1) := by decide +kernel
theorem dX1_readLine_95 : decode cX1_readLine 95 = .ok (.invokevirtual 66, 3) := by decide +kernel
theorem dX1_readLine_98 : decode cX1_readLine 98 = .ok (.iconst 1, 1) := by decide +kernel
theorem dX1_readLine_99 : decode cX1_readLine 99 = .ok (.ireturn, 1) := by decide +kernel
theorem dX1_readEither_0 : decode cX1_readEither 0 = .ok (.iload_n 1, 1) := by decide +kernel
theorem dX1_readEither_1 : decode cX1_readEither 1 = .ok (.bipush 6, 2) := by decide +kernel
theorem dX1_readEither_3 : decode cX1_readEither 3 = .ok (.if_icmp .lt 8, 3) := by decide +kernel
theorem dX1_readEither_6 : decode cX1_readEither 6 = .ok (.aload_n 0, 1) := by decide +kernel
theorem dX1_readEither_7 : decode cX1_readEither 7 = .ok (.invokevirtual 52, 3) := by decide +kernel
theorem dX1_readEither_10 : decode cX1_readEither 10 = .ok (.ireturn, 1) := by decide +kernel
theorem dX1_readEither_11 : decode cX1_readEither 11 = .ok (.aload_n 0, 1) := by decide +kernel
theorem dX1_readEither_12 : decode cX1_readEither 12 = .ok (.iload_n 1, 1) := by decide +kernel
theorem dX1_readEither_13 : decode cX1_readEither 13 = .ok (.invokevirtual 70, 3) := by decide +kernel
theorem dX1_readEither_16 : decode cX1_readEither 16 = .ok (.ifCond .ne 5, 3) := by decide +kernel
theorem dX1_readEither_19 : decode cX1_readEither 19 = .ok (.iconst 0, 1) := by decide +kernel
theorem dX1_readEither_20 : decode cX1_readEither 20 = .ok (.ireturn, 1) := by decide +kernel
theorem dX1_readEither_21 : decode cX1_readEither 21 = .ok (.iconst 0, 1) := by decide +kernel
theorem dX1_readEither_22 : decode cX1_readEither 22 = .ok (.istore_n 2, 1) := by decide +kernel
theorem dX1_readEither_23 : decode cX1_readEither 23 = .ok (.iload_n 2, 1) := by decide +kernel
theorem dX1_readEither_24 : decode cX1_readEither 24 = .ok (.bipush 60, 2) := by decide +kernel
theorem dX1_readEither_26 : decode cX1_readEither 26 = .ok (.if_icmp .ge 41, 3) := by decide +kernel
theorem dX1_readEither_29 : decode cX1_readEither 29 = .ok (.aload_n 0, 1) := by decide +kernel
theorem dX1_readEither_30 : decode cX1_readEither 30 = .ok (.getfield 45, 3) := by decide +kernel
theorem dX1_readEither_33 : decode cX1_readEither 33 = .ok (.bipush (-8), 2) := by decide +kernel
theorem dX1_readEither_35 : decode cX1_readEither 35 = .ok (.if_icmp .ne 32, 3) := by decide +kernel
theorem dX1_readEither_38 : decode cX1_readEither 38 = .ok (.aload_n 0, 1) := by decide +kernel
theorem dX1_readEither_39 : decode cX1_readEither 39 = .ok (.invokevirtual 42, 3) := by decide +kernel
theorem dX1_readEither_42 : decode cX1_readEither 42 = .ok (.aload_n 0, 1) := by decide +kernel
theorem dX1_readEither_43 : decode cX1_readEither 43 = .ok (.iload_n 1, 1) := by decide +kernel
theorem dX1_readEither_44 : decode cX1_readEither 44 = .ok (.invokevirtual 70, 3) := by decide +kernel
theorem dX1_readEither_47 : decode cX1_readEither 47 = .ok (.ifCond .ne 5, 3) := by decide +kernel
theorem dX1_readEither_50 : decode cX1_readEither 50 = .ok (.iconst 0, 1) := by decide +kernel
theorem dX1_readEither_51 : decode cX1_readEither 51 = .ok (.ireturn, 1) := by decide +kernel
theorem dX1_readEither_52 : decode cX1_readEither 52 = .ok (.aload_n 0, 1) := by decide +kernel
theorem dX1_readEither_53 : decode cX1_readEither 53 = .ok (.getfield 21, 3) := by decide +kernel
theorem dX1_readEither_56 : decode cX1_readEither 56 = .ok (.bipush (-8), 2) := by decide +kernel
theorem dX1_readEither_58 : decode cX1_readEither 58 = .ok (.invokevirtual 73, 3) := by decide +kernel
theorem dX1_readEither_61 : decode cX1_readEither 61 = .ok (.iinc 2 1, 3) := by decide +kernel
theorem dX1_readEither_64 : decode cX1_readEither 64 = .ok (.goto (-41), 3) := by decide +kernel
theorem dX1_readEither_67 : decode cX1_readEither 67 = .ok (.iconst 1, 1) := by decide +kernel
theorem dX1_readEither_68 : decode cX1_readEither 68 = .ok (.ireturn, 1) := by decide +kernel
theorem dX1_readBoth_0 : decode cX1_readBoth 0 = .ok (.aload_n 0, 1) := by decide +kernel
theorem dX1_readBoth_1 : decode cX1_readBoth 1 = .ok (.iload_n 1, 1) := by decide +kernel
theorem dX1_readBoth_2 : decode cX1_readBoth 2 = .ok (.invokevirtual 77, 3) := by decide +kernel
theorem dX1_readBoth_5 : decode cX1_readBoth 5 = .ok (.ifCond .ne 5, 3) := by decide +kernel
theorem dX1_readBoth_8 : decode cX1_readBoth 8 = .ok (.iconst 0, 1) := by decide +kernel
theorem dX1_readBoth_9 : decode cX1_readBoth 9 = .ok (.ireturn, 1) := by decide +kernel
theorem dX1_readBoth_10 : decode cX1_readBoth 10 = .ok (.iconst 0, 1) := by decide +kernel
theorem dX1_readBoth_11 : decode cX1_readBoth 11 = .ok (.istore_n 2, 1) := by decide +kernel
theorem dX1_readBoth_12 : decode cX1_readBoth 12 = .ok (.iload_n 2, 1) := by decide +kernel
theorem dX1_readBoth_13 : decode cX1_readBoth 13 = .ok (.bipush 60, 2) := by decide +kernel
theorem dX1_readBoth_15 : decode cX1_readBoth 15 = .ok (.if_icmp .ge 41, 3) := by decide +kernel
theorem dX1_readBoth_18 : decode cX1_readBoth 18 = .ok (.aload_n 0, 1) := by decide +kernel
theorem dX1_readBoth_19 : decode cX1_readBoth 19 = .ok (.getfield 45, 3) := by decide +kernel
theorem dX1_readBoth_22 : decode cX1_readBoth 22 = .ok (.bipush (-7), 2) := by decide +kernel
theorem dX1_readBoth_24 : decode cX1_readBoth 24 = .ok (.if_icmp .ne 32, 3) := by decide +kernel
theorem dX1_readBoth_27 : decode cX1_readBoth 27 = .ok (.aload_n 0, 1) := by decide +kernel
theorem dX1_readBoth_28 : decode cX1_readBoth 28 = .ok (.invokevirtual 42, 3) := by decide +kernel
theorem dX1_readBoth_31 : decode cX1_readBoth 31 = .ok (.aload_n 0, 1) := by decide +kernel
theorem dX1_readBoth_32 : decode cX1_readBoth 32 = .ok (.iload_n 1, 1) := by decide +kernel
theorem dX1_readBoth_33 : decode cX1_readBoth 33 = .ok (.invokevirtual 77, 3) := by decide +kernel
theorem dX1_readBoth_36 : decode cX1_readBoth 36 = .ok (.ifCond .ne 5, 3) := by decide +kernel
theorem dX1_readBoth_39 : decode cX1_readBoth 39 = .ok (.iconst 0, 1) := by decide +kernel
theorem dX1_readBoth_40 : decode cX1_readBoth 40 = .ok (.ireturn, 1) := by decide +kernel
theorem dX1_readBoth_41 : decode cX1_readBoth 41 = .ok (.aload_n 0, 1) := by decide +kernel
theorem dX1_readBoth_42 : decode cX1_readBoth 42 = .ok (.getfield 21, 3) := by decide +kernel
theorem dX1_readBoth_45 : decode cX1_readBoth 45 = .ok (.bipush (-7), 2) := by decide +kernel
theorem dX1_readBoth_47 : decode cX1_readBoth 47 = .ok (.invokevirtual 73, 3) := by decide +kernel
theorem dX1_readBoth_50 : decode cX1_readBoth 50 = .ok (.iinc 2 1, 3) := by decide +kernel
theorem dX1_readBoth_53 : decode cX1_readBoth 53 = .ok (.goto (-41), 3) := by decide +kernel
theorem dX1_readBoth_56 : decode cX1_readBoth 56 = .ok (.iconst 1, 1) := by decide +kernel
theorem dX1_readBoth_57 : decode cX1_readBoth 57 = .ok (.ireturn, 1) := by decide +kernel
theorem dX1_readOne_0 : decode cX1_readOne 0 = .ok (.iload_n 1, 1) := by decide +kernel
theorem dX1_readOne_1 : decode cX1_readOne 1 = .ok (.bipush 6, 2) := by decide +kernel
theorem dX1_readOne_3 : decode cX1_readOne 3 = .ok (.if_icmp .lt 8, 3) := by decide +kernel
theorem dX1_readOne_6 : decode cX1_readOne 6 = .ok (.aload_n 0, 1) := by decide +kernel
theorem dX1_readOne_7 : decode cX1_readOne 7 = .ok (.invokevirtual 52, 3) := by decide +kernel
theorem dX1_readOne_10 : decode cX1_readOne 10 = .ok (.ireturn, 1) := by decide +kernel
theorem dX1_readOne_11 : decode cX1_readOne 11 = .ok (.aload_n 0, 1) := by decide +kernel
theorem dX1_readOne_12 : decode cX1_readOne 12 = .ok (.getfield 45, 3) := by decide +kernel
theorem dX1_readOne_15 : decode cX1_readOne 15 = .ok (.bipush (-6), 2) := by decide +kernel
theorem dX1_readOne_17 : decode cX1_readOne 17 = .ok (.if_icmp .ne 30, 3) := by decide +kernel
theorem dX1_readOne_20 : decode cX1_readOne 20 = .ok (.aload_n 0, 1) := by decide +kernel
theorem dX1_readOne_21 : decode cX1_readOne 21 = .ok (.invokevirtual 42, 3) := by decide +kernel
theorem dX1_readOne_24 : decode cX1_readOne 24 = .ok (.aload_n 0, 1) := by decide +kernel
theorem dX1_readOne_25 : decode cX1_readOne 25 = .ok (.iload_n 1, 1) := by decide +kernel
theorem dX1_readOne_26 : decode cX1_readOne 26 = .ok (.iconst 1, 1) := by decide +kernel
theorem dX1_readOne_27 : decode cX1_readOne 27 = .ok (.iadd, 1) := by decide +kernel
theorem dX1_readOne_28 : decode cX1_readOne 28 = .ok (.invokevirtual 77, 3) := by decide +kernel
theorem dX1_readOne_31 : decode cX1_readOne 31 = .ok (.ifCond .ne 5, 3) := by decide +kernel
theorem dX1_readOne_34 : decode cX1_readOne 34 = .ok (.iconst 0, 1) := by decide +kernel
theorem dX1_readOne_35 : decode cX1_readOne 35 = .ok (.ireturn, 1) := by decide +kernel
theorem dX1_readOne_36 : decode cX1_readOne 36 = .ok (.aload_n 0, 1) := by decide +kernel
theorem dX1_readOne_37 : decode cX1_readOne 37 = .ok (.getfield 21, 3) := by decide +kernel
theorem dX1_readOne_40 : decode cX1_readOne 40 = .ok (.bipush (-6), 2) := by decide +kernel
theorem dX1_readOne_42 : decode cX1_readOne 42 = .ok (.invokevirtual 73, 3) := by decide +kernel
theorem dX1_readOne_45 : decode cX1_readOne 45 = .ok (.iconst 1, 1) := by decide +kernel
theorem dX1_readOne_46 : decode cX1_readOne 46 = .ok (.ireturn, 1) := by decide +kernel
theorem dX1_readOne_47 : decode cX1_readOne 47 = .ok (.aload_n 0, 1) := by decide +kernel
theorem dX1_readOne_48 : decode cX1_readOne 48 = .ok (.getfield 45, 3) := by decide +kernel
theorem dX1_readOne_51 : decode cX1_readOne 51 = .ok (.bipush (-14), 2) := by decide +kernel
theorem dX1_readOne_53 : decode cX1_readOne 53 = .ok (.if_icmp .ne 32, 3) := by decide +kernel
theorem dX1_readOne_56 : decode cX1_readOne 56 = .ok (.aload_n 0, 1) := by decide +kernel
theorem dX1_readOne_57 : decode cX1_readOne 57 = .ok (.invokevirtual 42, 3) := by decide +kernel
theorem dX1_readOne_60 : decode cX1_readOne 60 = .ok (.aload_n 0, 1) := by decide +kernel
theorem dX1_readOne_61 : decode cX1_readOne 61 = .ok (.iload_n 1, 1) := by decide +kernel
theorem dX1_readOne_62 : decode cX1_readOne 62 = .ok (.iconst 1, 1) := by decide +kernel
theorem dX1_readOne_63 : decode cX1_readOne 63 = .ok (.iadd, 1) := by decide +kernel
theorem dX1_readOne_64 : decode cX1_readOne 64 = .ok (.invokevirtual 63, 3) := by decide +kernel
theorem dX1_readOne_67 : decode cX1_readOne 67 = .ok (.ifCond .eq 16, 3) := by decide +kernel
theorem dX1_readOne_70 : decode cX1_readOne 70 = .ok (.aload_n 0, 1) := by decide +kernel
theorem dX1_readOne_71 : decode cX1_readOne 71 = .ok (.bipush (-15), 2) := by decide +kernel
theorem dX1_readOne_73 : decode cX1_readOne 73 = .ok (.invokevirtual 55, 3) := by decide +kernel
theorem dX1_readOne_76 : decode cX1_readOne 76 = .ok (.ifCond .eq 7, 3) := by decide +kernel
theorem dX1_readOne_79 : decode cX1_readOne 79 = .ok (.iconst 1, 1) := by decide +kernel
theorem dX1_readOne_80 : decode cX1_readOne 80 = .ok (.goto 4, 3) := by decide +kernel
theorem dX1_readOne_83 : decode cX1_readOne 83 = .ok (.iconst 0, 1) := by decide +kernel
theorem dX1_readOne_84 : decode cX1_readOne 84 = .ok (.ireturn, 1) := by decide +kernel
theorem dX1_readOne_85 : decode cX1_readOne 85 = .ok (.aload_n 0, 1) := by decide +kernel
theorem dX1_readOne_86 : decode cX1_readOne 86 = .ok (.invokevirtual 80, 3) := by decide +kernel
theorem dX1_readOne_89 : decode cX1_readOne 89 = .ok (.ifCond .ne 5, 3) := by decide +kernel
theorem dX1_readOne_92 : decode cX1_readOne 92 = .ok (.iconst 0, 1) := by decide +kernel
theorem dX1_readOne_93 : decode cX1_readOne 93 = .ok (.ireturn, 1) := by decide +kernel
theorem dX1_readOne_94 : decode cX1_readOne 94 = .ok (.aload_n 0, 1) := by decide +kernel
theorem dX1_readOne_95 : decode cX1_readOne 95 = .ok (.getfield 45, 3) := by decide +kernel
theorem dX1_readOne_98 : decode cX1_readOne 98 = .ok (.istore_n 2, 1) := by decide +kernel
theorem dX1_readOne_99 : decode cX1_readOne 99 = .ok (.iload_n 2, 1) := by decide +kernel
theorem dX1_readOne_100 : decode cX1_readOne 100 = .ok (.bipush (-9), 2) := by decide +kernel
theorem dX1_readOne_102 : decode cX1_readOne 102 = .ok (.if_icmp .eq 20, 3) := by decide +kernel
theorem dX1_readOne_105 : decode cX1_readOne 105 = .ok (.iload_n 2, 1) := by decide +kernel
theorem dX1_readOne_106 : decode cX1_readOne 106 = .ok (.bipush (-10), 2) := by decide +kernel
theorem dX1_readOne_108 : decode cX1_readOne 108 = .ok (.if_icmp .eq 14, 3) := by decide +kernel
theorem dX1_readOne_111 : decode cX1_readOne 111 = .ok (.iload_n 2, 1) := by decide +kernel
theorem dX1_readOne_112 : decode cX1_readOne 112 = .ok (.bipush (-11), 2) := by decide +kernel
theorem dX1_readOne_114 : decode cX1_readOne 114 = .ok (.if_icmp .eq 8, 3) := by decide +kernel
theorem dX1_readOne_117 : decode cX1_readOne 117 = .ok (.aload_n 0, 1) := by decide +kernel
theorem dX1_readOne_118 : decode cX1_readOne 118 = .ok (.invokevirtual 52, 3) := by decide +kernel
theorem dX1_readOne_121 : decode cX1_readOne 121 = .ok (.ireturn, 1) := by decide +kernel
theorem dX1_readOne_122 : decode cX1_readOne 122 = .ok (.aload_n 0, 1) := by decide +kernel
theorem dX1_readOne_123 : decode cX1_readOne 123 = .ok (.invokevirtual 42, 3) := by decide +kernel
theorem dX1_readOne_126 : decode cX1_readOne 126 = .ok (.aload_n 0, 1) := by decide +kernel
theorem dX1_readOne_127 : decode cX1_readOne 127 = .ok (.invokevirtual 80, 3) := by decide +kernel
theorem dX1_readOne_130 : decode cX1_readOne 130 = .ok (.ifCond .ne 5, 3) := by decide +kernel
theorem dX1_readOne_133 : decode cX1_readOne 133 = .ok (.iconst 0, 1) := by decide +kernel
theorem dX1_readOne_134 : decode cX1_readOne 134 = .ok (.ireturn, 1) := by decide +kernel
theorem dX1_readOne_135 : decode cX1_readOne 135 = .ok (.aload_n 0, 1) := by decide +kernel
theorem dX1_readOne_136 : decode cX1_readOne 136 = .ok (.getfield 21, 3) := by decide +kernel
theorem dX1_readOne_139 : decode cX1_readOne 139 = .ok (.iload_n 2, 1) := by decide +kernel
theorem dX1_readOne_140 : decode cX1_readOne 140 = .ok (.invokevirtual 73, 3) := by decide +kernel
theorem dX1_readOne_143 : decode cX1_readOne 143 = .ok (.iconst 1, 1) := by decide +kernel
theorem dX1_readOne_144 : decode cX1_readOne 144 = .ok (.ireturn, 1) := by decide +kernel
theorem dX1_readSum_0 : decode cX1_readSum 0 = .ok (.iconst (-1), 1) := by decide +kernel
theorem dX1_readSum_1 : decode cX1_readSum 1 = .ok (.istore_n 1, 1) := by decide +kernel
theorem dX1_readSum_2 : decode cX1_readSum 2 = .ok (.iconst 0, 1) := by decide +kernel
theorem dX1_readSum_3 : decode cX1_readSum 3 = .ok (.istore_n 2, 1) := by decide +kernel
theorem dX1_readSum_4 : decode cX1_readSum 4 = .ok (.iload_n 2, 1) := by decide +kernel
theorem dX1_readSum_5 : decode cX1_readSum 5 = .ok (.bipush 60, 2) := by decide +kernel
theorem dX1_readSum_7 : decode cX1_readSum 7 = .ok (.if_icmp .gt 98, 3) := by decide +kernel
theorem dX1_readSum_10 : decode cX1_readSum 10 = .ok (.aload_n 0, 1) := by decide +kernel
theorem dX1_readSum_11 : decode cX1_readSum 11 = .ok (.getfield 36, 3) := by decide +kernel
theorem dX1_readSum_14 : decode cX1_readSum 14 = .ok (.bipush 60, 2) := by decide +kernel
theorem dX1_readSum_16 : decode cX1_readSum 16 = .ok (.if_icmp .ge 12, 3) := by decide +kernel
theorem dX1_readSum_19 : decode cX1_readSum 19 = .ok (.aload_n 0, 1) := by decide +kernel
theorem dX1_readSum_20 : decode cX1_readSum 20 = .ok (.getfield 45, 3) := by decide +kernel
theorem dX1_readSum_23 : decode cX1_readSum 23 = .ok (.bipush (-5), 2) := by decide +kernel
theorem dX1_readSum_25 : decode cX1_readSum 25 = .ok (.if_icmp .ge 8, 3) := by decide +kernel
theorem dX1_readSum_28 : decode cX1_readSum 28 = .ok (.aload_n 0, 1) := by decide +kernel
theorem dX1_readSum_29 : decode cX1_readSum 29 = .ok (.invokevirtual 52, 3) := by decide +kernel
theorem dX1_readSum_32 : decode cX1_readSum 32 = .ok (.ireturn, 1) := by decide +kernel
theorem dX1_readSum_33 : decode cX1_readSum 33 = .ok (.aload_n 0, 1) := by decide +kernel
theorem dX1_readSum_34 : decode cX1_readSum 34 = .ok (.getfield 21, 3) := by decide +kernel
theorem dX1_readSum_37 : decode cX1_readSum 37 = .ok (.aload_n 0, 1) := by decide +kernel
theorem dX1_readSum_38 : decode cX1_readSum 38 = .ok (.getfield 45, 3) := by decide +kernel
theorem dX1_readSum_41 : decode cX1_readSum 41 = .ok (.invokevirtual 73, 3) := by decide +kernel
theorem dX1_readSum_44 : decode cX1_readSum 44 = .ok (.aload_n 0, 1) := by decide +kernel
theorem dX1_readSum_45 : decode cX1_readSum 45 = .ok (.dup, 1) := by decide +kernel
theorem dX1_readSum_46 : decode cX1_readSum 46 = .ok (.getfield 36, 3) := by decide +kernel
theorem dX1_readSum_49 : decode cX1_readSum 49 = .ok (.iconst 1, 1) := by decide +kernel
theorem dX1_readSum_50 : decode cX1_readSum 50 = .ok (.iadd, 1) := by decide +kernel
theorem dX1_readSum_51 : decode cX1_readSum 51 = .ok (.putfield 36, 3) := by decide +kernel
theorem dX1_readSum_54 : decode cX1_readSum 54 = .ok (.aload_n 0, 1) := by decide +kernel
theorem dX1_readSum_55 : decode cX1_readSum 55 = .ok (.invokevirtual 42, 3) := by decide +kernel
theorem dX1_readSum_58 : decode cX1_readSum 58 = .ok (.iload_n 2, 1) := by decide +kernel
theorem dX1_readSum_59 : decode cX1_readSum 59 = .ok (.ifCond .le 11, 3) := by decide +kernel
theorem dX1_readSum_62 : decode cX1_readSum 62 = .ok (.aload_n 0, 1) := by decide +kernel
theorem dX1_readSum_63 : decode cX1_readSum 63 = .ok (.getfield 21, 3) := by decide +kernel
theorem dX1_readSum_66 : decode cX1_readSum 66 = .ok (.iload_n 1, 1) := by decide +kernel
theorem dX1_readSum_67 : decode cX1_readSum 67 = .ok (.invokevirtual 73, 3) := by decide +kernel
theorem dX1_readSum_70 : decode cX1_readSum 70 = .ok (.aload_n 0, 1) := by decide +kernel
theorem dX1_readSum_71 : decode cX1_readSum 71 = .ok (.getfield 45, 3) := by decide +kernel
theorem dX1_readSum_74 : decode cX1_readSum 74 = .ok (.bipush (-12), 2) := by decide +kernel
theorem dX1_readSum_76 : decode cX1_readSum 76 = .ok (.if_icmp .eq 14, 3) := by decide +kernel
theorem dX1_readSum_79 : decode cX1_readSum 79 = .ok (.aload_n 0, 1) := by decide +kernel
theorem dX1_readSum_80 : decode cX1_readSum 80 = .ok (.getfield 45, 3) := by decide +kernel
theorem dX1_readSum_83 : decode cX1_readSum 83 = .ok (.bipush (-13), 2) := by decide +kernel
theorem dX1_readSum_85 : decode cX1_readSum 85 = .ok (.if_icmp .eq 5, 3) := by decide +kernel
theorem dX1_readSum_88 : decode cX1_readSum 88 = .ok (.iconst 1, 1) := by decide +kernel
theorem dX1_readSum_89 : decode cX1_readSum 89 = .ok (.ireturn, 1) := by decide +kernel
theorem dX1_readSum_90 : decode cX1_readSum 90 = .ok (.aload_n 0, 1) := by decide +kernel
theorem dX1_readSum_91 : decode cX1_readSum 91 = .ok (.getfield 45, 3) := by decide +kernel
theorem dX1_readSum_94 : decode cX1_readSum 94 = .ok (.istore_n 1, 1) := by decide +kernel
theorem dX1_readSum_95 : decode cX1_readSum 95 = .ok (.aload_n 0, 1) := by decide +kernel
theorem dX1_readSum_96 : decode cX1_readSum 96 = .ok (.invokevirtual 42, 3) := by decide +kernel
theorem dX1_readSum_99 : decode cX1_readSum 99 = .ok (.iinc 2 1, 3) := by decide +kernel
theorem dX1_readSum_102 : decode cX1_readSum 102 = .ok (.goto (-98), 3) := by decide +kernel
theorem dX1_readSum_105 : decode cX1_readSum 105 = .ok (.aload_n 0, 1) := by decide +kernel
theorem dX1_readSum_106 : decode cX1_readSum 106 = .ok (.invokevirtual 52, 3) := by decide +kernel
theorem dX1_readSum_109 : decode cX1_readSum 109 = .ok (.ireturn, 1) := by decide +kernel
theorem dX1_readToken_0 : decode cX1_readToken 0 = .ok (.aload_n 0, 1) := by decide +kernel
theorem dX1_readToken_1 : decode cX1_readToken 1 = .ok (.getfield 45, 3) := by decide +kernel
theorem dX1_readToken_4 : decode cX1_readToken 4 = .ok (.iload_n 1, 1) := by decide +kernel
theorem dX1_readToken_5 : decode cX1_readToken 5 = .ok (.if_icmp .eq 8, 3) := by decide +kernel
theorem dX1_readToken_8 : decode cX1_readToken 8 = .ok (.aload_n 0, 1) := by decide +kernel
theorem dX1_readToken_9 : decode cX1_readToken 9 = .ok (.invokevirtual 52, 3) := by decide +kernel
theorem dX1_readToken_12 : decode cX1_readToken 12 = .ok (.ireturn, 1) := by decide +kernel
theorem dX1_readToken_13 : decode cX1_readToken 13 = .ok (.aload_n 0, 1) := by decide +kernel
theorem dX1_readToken_14 : decode cX1_readToken 14 = .ok (.invokevirtual 42, 3) := by decide +kernel
theorem dX1_readToken_17 : decode cX1_readToken 17 = .ok (.iconst 1, 1) := by decide +kernel
theorem dX1_readToken_18 : decode cX1_readToken 18 = .ok (.ireturn, 1) := by decide +kernel
theorem dX1_readNumber_0 : decode cX1_readNumber 0 = .ok (.aload_n 0, 1) := by decide +kernel
theorem dX1_readNumber_1 : decode cX1_readNumber 1 = .ok (.getfield 45, 3) := by decide +kernel
theorem dX1_readNumber_4 : decode cX1_readNumber 4 = .ok (.ifCond .ge 8, 3) := by decide +kernel
theorem dX1_readNumber_7 : decode cX1_readNumber 7 = .ok (.aload_n 0, 1) := by decide +kernel
theorem dX1_readNumber_8 : decode cX1_readNumber 8 = .ok (.invokevirtual 52, 3) := by decide +kernel
theorem dX1_readNumber_11 : decode cX1_readNumber 11 = .ok (.ireturn, 1) := by decide +kernel
theorem dX1_readNumber_12 : decode cX1_readNumber 12 = .ok (.aload_n 0, 1) := by decide +kernel
theorem dX1_readNumber_13 : decode cX1_readNumber 13 = .ok (.getfield 45, 3) := by decide +kernel
theorem dX1_readNumber_16 : decode cX1_readNumber 16 = .ok (.iload_n 1, 1) := by decide +kernel
theorem dX1_readNumber_17 : decode cX1_readNumber 17 = .ok (.iload_n 2, 1) := by decide +kernel
theorem dX1_readNumber_18 : decode cX1_readNumber 18 = .ok (.invokestatic 83, 3) := by decide +kernel
theorem dX1_readNumber_21 : decode cX1_readNumber 21 = .ok (.ifCond .ne 10, 3) := by decide +kernel
theorem dX1_readNumber_24 : decode cX1_readNumber 24 = .ok (.aload_n 0, 1) := by decide +kernel
theorem dX1_readNumber_25 : decode cX1_readNumber 25 = .ok (.iconst 3, 1) := by decide +kernel
theorem dX1_readNumber_26 : decode cX1_readNumber 26 = .ok (.putfield 25, 3) := by decide +kernel
theorem dX1_readNumber_29 : decode cX1_readNumber 29 = .ok (.iconst 0, 1) := by decide +kernel
theorem dX1_readNumber_30 : decode cX1_readNumber 30 = .ok (.ireturn, 1) := by decide +kernel
theorem dX1_readNumber_31 : decode cX1_readNumber 31 = .ok (.aload_n 0, 1) := by decide +kernel
theorem dX1_readNumber_32 : decode cX1_readNumber 32 = .ok (.invokevirtual 42, 3) := by decide +kernel
theorem dX1_readNumber_35 : decode cX1_readNumber 35 = .ok (.iconst 1, 1) := by decide +kernel
theorem dX1_readNumber_36 : decode cX1_readNumber 36 = .ok (.ireturn, 1) := by decide +kernel
theorem dX1_refuse_0 : decode cX1_refuse 0 = .ok (.aload_n 0, 1) := by decide +kernel
theorem dX1_refuse_1 : decode cX1_refuse 1 = .ok (.aload_n 0, 1) := by decide +kernel
theorem dX1_refuse_2 : decode cX1_refuse 2 = .ok (.getfield 45, 3) := by decide +kernel
theorem dX1_refuse_5 : decode cX1_refuse 5 = .ok (.bipush (-21), 2) := by decide +kernel
theorem dX1_refuse_7 : decode cX1_refuse 7 = .ok (.if_icmp .ne 7, 3) := by decide +kernel
theorem dX1_refuse_10 : decode cX1_refuse 10 = .ok (.iconst 1, 1) := by decide +kernel
theorem dX1_refuse_11 : decode cX1_refuse 11 = .ok (.goto 4, 3) := by decide +kernel
theorem dX1_refuse_14 : decode cX1_refuse 14 = .ok (.iconst 2, 1) := by decide +kernel
theorem dX1_refuse_15 : decode cX1_refuse 15 = .ok (.putfield 25, 3) := by decide +kernel
theorem dX1_refuse_18 : decode cX1_refuse 18 = .ok (.iconst 0, 1) := by decide +kernel
theorem dX1_refuse_19 : decode cX1_refuse 19 = .ok (.ireturn, 1) := by decide +kernel
theorem dX1_advance_0 : decode cX1_advance 0 = .ok (.aload_n 0, 1) := by decide +kernel
theorem dX1_advance_1 : decode cX1_advance 1 = .ok (.dup, 1) := by decide +kernel
theorem dX1_advance_2 : decode cX1_advance 2 = .ok (.getfield 39, 3) := by decide +kernel
theorem dX1_advance_5 : decode cX1_advance 5 = .ok (.iconst 1, 1) := by decide +kernel
theorem dX1_advance_6 : decode cX1_advance 6 = .ok (.iadd, 1) := by decide +kernel
theorem dX1_advance_7 : decode cX1_advance 7 = .ok (.putfield 39, 3) := by decide +kernel
theorem dX1_advance_10 : decode cX1_advance 10 = .ok (.aload_n 0, 1) := by decide +kernel
theorem dX1_advance_11 : decode cX1_advance 11 = .ok (.getfield 39, 3) := by decide +kernel
theorem dX1_advance_14 : decode cX1_advance 14 = .ok (.ifCond .lt 36, 3) := by decide +kernel
theorem dX1_advance_17 : decode cX1_advance 17 = .ok (.aload_n 0, 1) := by decide +kernel
theorem dX1_advance_18 : decode cX1_advance 18 = .ok (.getfield 39, 3) := by decide +kernel
theorem dX1_advance_21 : decode cX1_advance 21 = .ok (.aload_n 0, 1) := by decide +kernel
theorem dX1_advance_22 : decode cX1_advance 22 = .ok (.getfield 12, 3) := by decide +kernel
theorem dX1_advance_25 : decode cX1_advance 25 = .ok (.getfield 87, 3) := by decide +kernel
theorem dX1_advance_28 : decode cX1_advance 28 = .ok (.if_icmp .ge 22, 3) := by decide +kernel
theorem dX1_advance_31 : decode cX1_advance 31 = .ok (.aload_n 0, 1) := by decide +kernel
theorem dX1_advance_32 : decode cX1_advance 32 = .ok (.getfield 39, 3) := by decide +kernel
theorem dX1_advance_35 : decode cX1_advance 35 = .ok (.aload_n 0, 1) := by decide +kernel
theorem dX1_advance_36 : decode cX1_advance 36 = .ok (.getfield 12, 3) := by decide +kernel
theorem dX1_advance_39 : decode cX1_advance 39 = .ok (.getfield 90, 3) := by decide +kernel
theorem dX1_advance_42 : decode cX1_advance 42 = .ok (.arraylength, 1) := by decide +kernel
theorem dX1_advance_43 : decode cX1_advance 43 = .ok (.if_icmp .ge 7, 3) := by decide +kernel
theorem dX1_advance_46 : decode cX1_advance 46 = .ok (.iconst 1, 1) := by decide +kernel
theorem dX1_advance_47 : decode cX1_advance 47 = .ok (.goto 4, 3) := by decide +kernel
theorem dX1_advance_50 : decode cX1_advance 50 = .ok (.iconst 0, 1) := by decide +kernel
theorem dX1_advance_51 : decode cX1_advance 51 = .ok (.istore_n 1, 1) := by decide +kernel
theorem dX1_advance_52 : decode cX1_advance 52 = .ok (.aload_n 0, 1) := by decide +kernel
theorem dX1_advance_53 : decode cX1_advance 53 = .ok (.iload_n 1, 1) := by decide +kernel
theorem dX1_advance_54 : decode cX1_advance 54 = .ok (.ifCond .eq 18, 3) := by decide +kernel
theorem dX1_advance_57 : decode cX1_advance 57 = .ok (.aload_n 0, 1) := by decide +kernel
theorem dX1_advance_58 : decode cX1_advance 58 = .ok (.getfield 12, 3) := by decide +kernel
theorem dX1_advance_61 : decode cX1_advance 61 = .ok (.getfield 90, 3) := by decide +kernel
theorem dX1_advance_64 : decode cX1_advance 64 = .ok (.aload_n 0, 1) := by decide +kernel
theorem dX1_advance_65 : decode cX1_advance 65 = .ok (.getfield 39, 3) := by decide +kernel
theorem dX1_advance_68 : decode cX1_advance 68 = .ok (.iaload, 1) := by decide +kernel
theorem dX1_advance_69 : decode cX1_advance 69 = .ok (.goto 5, 3) := by decide +kernel
theorem dX1_advance_72 : decode cX1_advance 72 = .ok (.bipush (-22), 2) := by decide +kernel
theorem dX1_advance_74 : decode cX1_advance 74 = .ok (.putfield 45, 3) := by decide +kernel
theorem dX1_advance_77 : decode cX1_advance 77 = .ok (.return_, 1) := by decide +kernel
theorem dX1_placeReached_0 : decode cX1_placeReached 0 = .ok (.aload_n 0, 1) := by decide +kernel
theorem dX1_placeReached_1 : decode cX1_placeReached 1 = .ok (.getfield 39, 3) := by decide +kernel
theorem dX1_placeReached_4 : decode cX1_placeReached 4 = .ok (.ifCond .lt 36, 3) := by decide +kernel
theorem dX1_placeReached_7 : decode cX1_placeReached 7 = .ok (.aload_n 0, 1) := by decide +kernel
theorem dX1_placeReached_8 : decode cX1_placeReached 8 = .ok (.getfield 39, 3) := by decide +kernel
theorem dX1_placeReached_11 : decode cX1_placeReached 11 = .ok (.aload_n 0, 1) := by decide +kernel
theorem dX1_placeReached_12 : decode cX1_placeReached 12 = .ok (.getfield 12, 3) := by decide +kernel
theorem dX1_placeReached_15 : decode cX1_placeReached 15 = .ok (.getfield 87, 3) := by decide +kernel
theorem dX1_placeReached_18 : decode cX1_placeReached 18 = .ok (.if_icmp .ge 22, 3) := by decide +kernel
theorem dX1_placeReached_21 : decode cX1_placeReached 21 = .ok (.aload_n 0, 1) := by decide +kernel
theorem dX1_placeReached_22 : decode cX1_placeReached 22 = .ok (.getfield 39, 3) := by decide +kernel
theorem dX1_placeReached_25 : decode cX1_placeReached 25 = .ok (.aload_n 0, 1) := by decide +kernel
theorem dX1_placeReached_26 : decode cX1_placeReached 26 = .ok (.getfield 12, 3) := by decide +kernel
theorem dX1_placeReached_29 : decode cX1_placeReached 29 = .ok (.getfield 94, 3) := by decide +kernel
theorem dX1_placeReached_32 : decode cX1_placeReached 32 = .ok (.arraylength, 1) := by decide +kernel
theorem dX1_placeReached_33 : decode cX1_placeReached 33 = .ok (.if_icmp .ge 7, 3) := by decide +kernel
theorem dX1_placeReached_36 : decode cX1_placeReached 36 = .ok (.iconst 1, 1) := by decide +kernel
theorem dX1_placeReached_37 : decode cX1_placeReached 37 = .ok (.goto 4, 3) := by decide +kernel
theorem dX1_placeReached_40 : decode cX1_placeReached 40 = .ok (.iconst 0, 1) := by decide +kernel
theorem dX1_placeReached_41 : decode cX1_placeReached 41 = .ok (.istore_n 1, 1) := by decide +kernel
theorem dX1_placeReached_42 : decode cX1_placeReached 42 = .ok (.iload_n 1, 1) := by decide +kernel
theorem dX1_placeReached_43 : decode cX1_placeReached 43 = .ok (.ifCond .eq 18, 3) := by decide +kernel
theorem dX1_placeReached_46 : decode cX1_placeReached 46 = .ok (.aload_n 0, 1) := by decide +kernel
theorem dX1_placeReached_47 : decode cX1_placeReached 47 = .ok (.getfield 12, 3) := by decide +kernel
theorem dX1_placeReached_50 : decode cX1_placeReached 50 = .ok (.getfield 94, 3) := by decide +kernel
theorem dX1_placeReached_53 : decode cX1_placeReached 53 = .ok (.aload_n 0, 1) := by decide +kernel
theorem dX1_placeReached_54 : decode cX1_placeReached 54 = .ok (.getfield 39, 3) := by decide +kernel
theorem dX1_placeReached_57 : decode cX1_placeReached 57 = .ok (.iaload, 1) := by decide +kernel
theorem dX1_placeReached_58 : decode cX1_placeReached 58 = .ok (.goto 4, 3) := by decide +kernel
theorem dX1_placeReached_61 : decode cX1_placeReached 61 = .ok (.iconst (-1), 1) := by decide +kernel
theorem dX1_placeReached_62 : decode cX1_placeReached 62 = .ok (.ireturn, 1) := by decide +kernel
theorem dX2_init_0 : decode cX2_init 0 = .ok (.aload_n 0, 1) := by decide +kernel
theorem dX2_init_1 : decode cX2_init 1 = .ok (.invokespecial 7, 3) := by decide +kernel
theorem dX2_init_4 : decode cX2_init 4 = .ok (.aload_n 0, 1) := by decide +kernel
theorem dX2_init_5 : decode cX2_init 5 = .ok (.bipush 8, 2) := by decide +kernel
theorem dX2_init_7 : decode cX2_init 7 = .ok (.newarray .int, 2) := by decide +kernel
theorem dX2_init_9 : decode cX2_init 9 = .ok (.putfield 13, 3) := by decide +kernel
theorem dX2_init_12 : decode cX2_init 12 = .ok (.aload_n 0, 1) := by decide +kernel
theorem dX2_init_13 : decode cX2_init 13 = .ok (.bipush 8, 2) := by decide +kernel
theorem dX2_init_15 : decode cX2_init 15 = .ok (.newarray .int, 2) := by decide +kernel
theorem dX2_init_17 : decode cX2_init 17 = .ok (.putfield 17, 3) := by decide +kernel
theorem dX2_init_20 : decode cX2_init 20 = .ok (.aload_n 0, 1) := by decide +kernel
theorem dX2_init_21 : decode cX2_init 21 = .ok (.bipush 8, 2) := by decide +kernel
theorem dX2_init_23 : decode cX2_init 23 = .ok (.newarray .int, 2) := by decide +kernel
theorem dX2_init_25 : decode cX2_init 25 = .ok (.putfield 20, 3) := by decide +kernel
theorem dX2_init_28 : decode cX2_init 28 = .ok (.aload_n 0, 1) := by decide +kernel
theorem dX2_init_29 : decode cX2_init 29 = .ok (.sipush 320, 3) := by decide +kernel
theorem dX2_init_32 : decode cX2_init 32 = .ok (.newarray .int, 2) := by decide +kernel
theorem dX2_init_34 : decode cX2_init 34 = .ok (.putfield 23, 3) := by decide +kernel
theorem dX2_init_37 : decode cX2_init 37 = .ok (.aload_n 0, 1) := by decide +kernel
theorem dX2_init_38 : decode cX2_init 38 = .ok (.bipush 32, 2) := by decide +kernel
theorem dX2_init_40 : decode cX2_init 40 = .ok (.newarray .int, 2) := by decide +kernel
theorem dX2_init_42 : decode cX2_init 42 = .ok (.putfield 26, 3) := by decide +kernel
theorem dX2_init_45 : decode cX2_init 45 = .ok (.aload_n 0, 1) := by decide +kernel
theorem dX2_init_46 : decode cX2_init 46 = .ok (.iconst 0, 1) := by decide +kernel
theorem dX2_init_47 : decode cX2_init 47 = .ok (.putfield 29, 3) := by decide +kernel
theorem dX2_init_50 : decode cX2_init 50 = .ok (.aload_n 0, 1) := by decide +kernel
theorem dX2_init_51 : decode cX2_init 51 = .ok (.iconst 0, 1) := by decide +kernel
theorem dX2_init_52 : decode cX2_init 52 = .ok (.putfield 33, 3) := by decide +kernel
theorem dX2_init_55 : decode cX2_init 55 = .ok (.aload_n 0, 1) := by decide +kernel
theorem dX2_init_56 : decode cX2_init 56 = .ok (.iconst 0, 1) := by decide +kernel
theorem dX2_init_57 : decode cX2_init 57 = .ok (.putfield 36, 3) := by decide +kernel
theorem dX2_init_60 : decode cX2_init 60 = .ok (.return_, 1) := by decide +kernel
theorem dX2_clear_0 : decode cX2_clear 0 = .ok (.aload_n 0, 1) := by decide +kernel
theorem dX2_clear_1 : decode cX2_clear 1 = .ok (.iconst 0, 1) := by decide +kernel
theorem dX2_clear_2 : decode cX2_clear 2 = .ok (.putfield 29, 3) := by decide +kernel
theorem dX2_clear_5 : decode cX2_clear 5 = .ok (.aload_n 0, 1) := by decide +kernel
theorem dX2_clear_6 : decode cX2_clear 6 = .ok (.iconst 0, 1) := by decide +kernel
theorem dX2_clear_7 : decode cX2_clear 7 = .ok (.putfield 33, 3) := by decide +kernel
theorem dX2_clear_10 : decode cX2_clear 10 = .ok (.return_, 1) := by decide +kernel
theorem dX2_emit_0 : decode cX2_emit 0 = .ok (.aload_n 0, 1) := by decide +kernel
theorem dX2_emit_1 : decode cX2_emit 1 = .ok (.getfield 33, 3) := by decide +kernel
theorem dX2_emit_4 : decode cX2_emit 4 = .ok (.aload_n 0, 1) := by decide +kernel
theorem dX2_emit_5 : decode cX2_emit 5 = .ok (.getfield 23, 3) := by decide +kernel
theorem dX2_emit_8 : decode cX2_emit 8 = .ok (.arraylength, 1) := by decide +kernel
theorem dX2_emit_9 : decode cX2_emit 9 = .ok (.if_icmp .ge 23, 3) := by decide +kernel
theorem dX2_emit_12 : decode cX2_emit 12 = .ok (.aload_n 0, 1) := by decide +kernel
theorem dX2_emit_13 : decode cX2_emit 13 = .ok (.getfield 23, 3) := by decide +kernel
theorem dX2_emit_16 : decode cX2_emit 16 = .ok (.aload_n 0, 1) := by decide +kernel
theorem dX2_emit_17 : decode cX2_emit 17 = .ok (.getfield 33, 3) := by decide +kernel
theorem dX2_emit_20 : decode cX2_emit 20 = .ok (.iload_n 1, 1) := by decide +kernel
theorem dX2_emit_21 : decode cX2_emit 21 = .ok (.iastore, 1) := by decide +kernel
theorem dX2_emit_22 : decode cX2_emit 22 = .ok (.aload_n 0, 1) := by decide +kernel
theorem dX2_emit_23 : decode cX2_emit 23 = .ok (.dup, 1) := by decide +kernel
theorem dX2_emit_24 : decode cX2_emit 24 = .ok (.getfield 33, 3) := by decide +kernel
theorem dX2_emit_27 : decode cX2_emit 27 = .ok (.iconst 1, 1) := by decide +kernel
theorem dX2_emit_28 : decode cX2_emit 28 = .ok (.iadd, 1) := by decide +kernel
theorem dX2_emit_29 : decode cX2_emit 29 = .ok (.putfield 33, 3) := by decide +kernel
theorem dX2_emit_32 : decode cX2_emit 32 = .ok (.return_, 1) := by decide +kernel
theorem dX2_addLine_0 : decode cX2_addLine 0 = .ok (.aload_n 0, 1) := by decide +kernel
theorem dX2_addLine_1 : decode cX2_addLine 1 = .ok (.getfield 29, 3) := by decide +kernel
theorem dX2_addLine_4 : decode cX2_addLine 4 = .ok (.bipush 8, 2) := by decide +kernel
theorem dX2_addLine_6 : decode cX2_addLine 6 = .ok (.if_icmp .ge 46, 3) := by decide +kernel
theorem dX2_addLine_9 : decode cX2_addLine 9 = .ok (.aload_n 0, 1) := by decide +kernel
theorem dX2_addLine_10 : decode cX2_addLine 10 = .ok (.getfield 13, 3) := by decide +kernel
theorem dX2_addLine_13 : decode cX2_addLine 13 = .ok (.aload_n 0, 1) := by decide +kernel
theorem dX2_addLine_14 : decode cX2_addLine 14 = .ok (.getfield 29, 3) := by decide +kernel
theorem dX2_addLine_17 : decode cX2_addLine 17 = .ok (.iload_n 1, 1) := by decide +kernel
theorem dX2_addLine_18 : decode cX2_addLine 18 = .ok (.iastore, 1) := by decide +kernel
theorem dX2_addLine_19 : decode cX2_addLine 19 = .ok (.aload_n 0, 1) := by decide +kernel
theorem dX2_addLine_20 : decode cX2_addLine 20 = .ok (.getfield 17, 3) := by decide +kernel
theorem dX2_addLine_23 : decode cX2_addLine 23 = .ok (.aload_n 0, 1) := by decide +kernel
theorem dX2_addLine_24 : decode cX2_addLine 24 = .ok (.getfield 29, 3) := by decide +kernel
theorem dX2_addLine_27 : decode cX2_addLine 27 = .ok (.iload_n 2, 1) := by decide +kernel
theorem dX2_addLine_28 : decode cX2_addLine 28 = .ok (.iastore, 1) := by decide +kernel
theorem dX2_addLine_29 : decode cX2_addLine 29 = .ok (.aload_n 0, 1) := by decide +kernel
theorem dX2_addLine_30 : decode cX2_addLine 30 = .ok (.getfield 20, 3) := by decide +kernel
theorem dX2_addLine_33 : decode cX2_addLine 33 = .ok (.aload_n 0, 1) := by decide +kernel
theorem dX2_addLine_34 : decode cX2_addLine 34 = .ok (.getfield 29, 3) := by decide +kernel
theorem dX2_addLine_37 : decode cX2_addLine 37 = .ok (.aload_n 0, 1) := by decide +kernel
theorem dX2_addLine_38 : decode cX2_addLine 38 = .ok (.getfield 33, 3) := by decide +kernel
theorem dX2_addLine_41 : decode cX2_addLine 41 = .ok (.iastore, 1) := by decide +kernel
theorem dX2_addLine_42 : decode cX2_addLine 42 = .ok (.aload_n 0, 1) := by decide +kernel
theorem dX2_addLine_43 : decode cX2_addLine 43 = .ok (.dup, 1) := by decide +kernel
theorem dX2_addLine_44 : decode cX2_addLine 44 = .ok (.getfield 29, 3) := by decide +kernel
theorem dX2_addLine_47 : decode cX2_addLine 47 = .ok (.iconst 1, 1) := by decide +kernel
theorem dX2_addLine_48 : decode cX2_addLine 48 = .ok (.iadd, 1) := by decide +kernel
theorem dX2_addLine_49 : decode cX2_addLine 49 = .ok (.putfield 29, 3) := by decide +kernel
theorem dX2_addLine_52 : decode cX2_addLine 52 = .ok (.return_, 1) := by decide +kernel
theorem dX2_copyFrom_0 : decode cX2_copyFrom 0 = .ok (.aload_n 0, 1) := by decide +kernel
theorem dX2_copyFrom_1 : decode cX2_copyFrom 1 = .ok (.aload_n 1, 1) := by decide +kernel
theorem dX2_copyFrom_2 : decode cX2_copyFrom 2 = .ok (.getfield 29, 3) := by decide +kernel
theorem dX2_copyFrom_5 : decode cX2_copyFrom 5 = .ok (.putfield 29, 3) := by decide +kernel
theorem dX2_copyFrom_8 : decode cX2_copyFrom 8 = .ok (.aload_n 0, 1) := by decide +kernel
theorem dX2_copyFrom_9 : decode cX2_copyFrom 9 = .ok (.aload_n 1, 1) := by decide +kernel
theorem dX2_copyFrom_10 : decode cX2_copyFrom 10 = .ok (.getfield 33, 3) := by decide +kernel
theorem dX2_copyFrom_13 : decode cX2_copyFrom 13 = .ok (.putfield 33, 3) := by decide +kernel
theorem dX2_copyFrom_16 : decode cX2_copyFrom 16 = .ok (.iconst 0, 1) := by decide +kernel
theorem dX2_copyFrom_17 : decode cX2_copyFrom 17 = .ok (.istore_n 2, 1) := by decide +kernel
theorem dX2_copyFrom_18 : decode cX2_copyFrom 18 = .ok (.iload_n 2, 1) := by decide +kernel
theorem dX2_copyFrom_19 : decode cX2_copyFrom 19 = .ok (.bipush 8, 2) := by decide +kernel
theorem dX2_copyFrom_21 : decode cX2_copyFrom 21 = .ok (.if_icmp .ge 45, 3) := by decide +kernel
theorem dX2_copyFrom_24 : decode cX2_copyFrom 24 = .ok (.aload_n 0, 1) := by decide +kernel
theorem dX2_copyFrom_25 : decode cX2_copyFrom 25 = .ok (.getfield 13, 3) := by decide +kernel
theorem dX2_copyFrom_28 : decode cX2_copyFrom 28 = .ok (.iload_n 2, 1) := by decide +kernel
theorem dX2_copyFrom_29 : decode cX2_copyFrom 29 = .ok (.aload_n 1, 1) := by decide +kernel
theorem dX2_copyFrom_30 : decode cX2_copyFrom 30 = .ok (.getfield 13, 3) := by decide +kernel
theorem dX2_copyFrom_33 : decode cX2_copyFrom 33 = .ok (.iload_n 2, 1) := by decide +kernel
theorem dX2_copyFrom_34 : decode cX2_copyFrom 34 = .ok (.iaload, 1) := by decide +kernel
theorem dX2_copyFrom_35 : decode cX2_copyFrom 35 = .ok (.iastore, 1) := by decide +kernel
theorem dX2_copyFrom_36 : decode cX2_copyFrom 36 = .ok (.aload_n 0, 1) := by decide +kernel
theorem dX2_copyFrom_37 : decode cX2_copyFrom 37 = .ok (.getfield 17, 3) := by decide +kernel
theorem dX2_copyFrom_40 : decode cX2_copyFrom 40 = .ok (.iload_n 2, 1) := by decide +kernel
theorem dX2_copyFrom_41 : decode cX2_copyFrom 41 = .ok (.aload_n 1, 1) := by decide +kernel
theorem dX2_copyFrom_42 : decode cX2_copyFrom 42 = .ok (.getfield 17, 3) := by decide +kernel
theorem dX2_copyFrom_45 : decode cX2_copyFrom 45 = .ok (.iload_n 2, 1) := by decide +kernel
theorem dX2_copyFrom_46 : decode cX2_copyFrom 46 = .ok (.iaload, 1) := by decide +kernel
theorem dX2_copyFrom_47 : decode cX2_copyFrom 47 = .ok (.iastore, 1) := by decide +kernel
theorem dX2_copyFrom_48 : decode cX2_copyFrom 48 = .ok (.aload_n 0, 1) := by decide +kernel
theorem dX2_copyFrom_49 : decode cX2_copyFrom 49 = .ok (.getfield 20, 3) := by decide +kernel
theorem dX2_copyFrom_52 : decode cX2_copyFrom 52 = .ok (.iload_n 2, 1) := by decide +kernel
theorem dX2_copyFrom_53 : decode cX2_copyFrom 53 = .ok (.aload_n 1, 1) := by decide +kernel
theorem dX2_copyFrom_54 : decode cX2_copyFrom 54 = .ok (.getfield 20, 3) := by decide +kernel
theorem dX2_copyFrom_57 : decode cX2_copyFrom 57 = .ok (.iload_n 2, 1) := by decide +kernel
theorem dX2_copyFrom_58 : decode cX2_copyFrom 58 = .ok (.iaload, 1) := by decide +kernel
theorem dX2_copyFrom_59 : decode cX2_copyFrom 59 = .ok (.iastore, 1) := by decide +kernel
theorem dX2_copyFrom_60 : decode cX2_copyFrom 60 = .ok (.iinc 2 1, 3) := by decide +kernel
theorem dX2_copyFrom_63 : decode cX2_copyFrom 63 = .ok (.goto (-45), 3) := by decide +kernel
theorem dX2_copyFrom_66 : decode cX2_copyFrom 66 = .ok (.iconst 0, 1) := by decide +kernel
theorem dX2_copyFrom_67 : decode cX2_copyFrom 67 = .ok (.istore_n 2, 1) := by decide +kernel
theorem dX2_copyFrom_68 : decode cX2_copyFrom 68 = .ok (.iload_n 2, 1) := by decide +kernel
theorem dX2_copyFrom_69 : decode cX2_copyFrom 69 = .ok (.aload_n 0, 1) := by decide +kernel
theorem dX2_copyFrom_70 : decode cX2_copyFrom 70 = .ok (.getfield 33, 3) := by decide +kernel
theorem dX2_copyFrom_73 : decode cX2_copyFrom 73 = .ok (.if_icmp .ge 30, 3) := by decide +kernel
theorem dX2_copyFrom_76 : decode cX2_copyFrom 76 = .ok (.iload_n 2, 1) := by decide +kernel
theorem dX2_copyFrom_77 : decode cX2_copyFrom 77 = .ok (.aload_n 0, 1) := by decide +kernel
theorem dX2_copyFrom_78 : decode cX2_copyFrom 78 = .ok (.getfield 23, 3) := by decide +kernel
theorem dX2_copyFrom_81 : decode cX2_copyFrom 81 = .ok (.arraylength, 1) := by decide +kernel
theorem dX2_copyFrom_82 : decode cX2_copyFrom 82 = .ok (.if_icmp .ge 21, 3) := by decide +kernel
theorem dX2_copyFrom_85 : decode cX2_copyFrom 85 = .ok (.aload_n 0, 1) := by decide +kernel
theorem dX2_copyFrom_86 : decode cX2_copyFrom 86 = .ok (.getfield 23, 3) := by decide +kernel
theorem dX2_copyFrom_89 : decode cX2_copyFrom 89 = .ok (.iload_n 2, 1) := by decide +kernel
theorem dX2_copyFrom_90 : decode cX2_copyFrom 90 = .ok (.aload_n 1, 1) := by decide +kernel
theorem dX2_copyFrom_91 : decode cX2_copyFrom 91 = .ok (.getfield 23, 3) := by decide +kernel
theorem dX2_copyFrom_94 : decode cX2_copyFrom 94 = .ok (.iload_n 2, 1) := by decide +kernel
theorem dX2_copyFrom_95 : decode cX2_copyFrom 95 = .ok (.iaload, 1) := by decide +kernel
theorem dX2_copyFrom_96 : decode cX2_copyFrom 96 = .ok (.iastore, 1) := by decide +kernel
theorem dX2_copyFrom_97 : decode cX2_copyFrom 97 = .ok (.iinc 2 1, 3) := by decide +kernel
theorem dX2_copyFrom_100 : decode cX2_copyFrom 100 = .ok (.goto (-32), 3) := by decide +kernel
theorem dX2_copyFrom_103 : decode cX2_copyFrom 103 = .ok (.return_, 1) := by decide +kernel
theorem dX2_widthOf_0 : decode cX2_widthOf 0 = .ok (.iload_n 1, 1) := by decide +kernel
theorem dX2_widthOf_1 : decode cX2_widthOf 1 = .ok (.ifCond .lt 18, 3) := by decide +kernel
theorem dX2_widthOf_4 : decode cX2_widthOf 4 = .ok (.iload_n 1, 1) := by decide +kernel
theorem dX2_widthOf_5 : decode cX2_widthOf 5 = .ok (.bipush 8, 2) := by decide +kernel
theorem dX2_widthOf_7 : decode cX2_widthOf 7 = .ok (.if_icmp .ge 12, 3) := by decide +kernel
theorem dX2_widthOf_10 : decode cX2_widthOf 10 = .ok (.aload_n 0, 1) := by decide +kernel
theorem dX2_widthOf_11 : decode cX2_widthOf 11 = .ok (.getfield 13, 3) := by decide +kernel
theorem dX2_widthOf_14 : decode cX2_widthOf 14 = .ok (.iload_n 1, 1) := by decide +kernel
theorem dX2_widthOf_15 : decode cX2_widthOf 15 = .ok (.iaload, 1) := by decide +kernel
theorem dX2_widthOf_16 : decode cX2_widthOf 16 = .ok (.goto 4, 3) := by decide +kernel
theorem dX2_widthOf_19 : decode cX2_widthOf 19 = .ok (.iconst 0, 1) := by decide +kernel
theorem dX2_widthOf_20 : decode cX2_widthOf 20 = .ok (.ireturn, 1) := by decide +kernel
theorem dX2_worthOf_0 : decode cX2_worthOf 0 = .ok (.iload_n 1, 1) := by decide +kernel
theorem dX2_worthOf_1 : decode cX2_worthOf 1 = .ok (.ifCond .lt 18, 3) := by decide +kernel
theorem dX2_worthOf_4 : decode cX2_worthOf 4 = .ok (.iload_n 1, 1) := by decide +kernel
theorem dX2_worthOf_5 : decode cX2_worthOf 5 = .ok (.bipush 8, 2) := by decide +kernel
theorem dX2_worthOf_7 : decode cX2_worthOf 7 = .ok (.if_icmp .ge 12, 3) := by decide +kernel
theorem dX2_worthOf_10 : decode cX2_worthOf 10 = .ok (.aload_n 0, 1) := by decide +kernel
theorem dX2_worthOf_11 : decode cX2_worthOf 11 = .ok (.getfield 17, 3) := by decide +kernel
theorem dX2_worthOf_14 : decode cX2_worthOf 14 = .ok (.iload_n 1, 1) := by decide +kernel
theorem dX2_worthOf_15 : decode cX2_worthOf 15 = .ok (.iaload, 1) := by decide +kernel
theorem dX2_worthOf_16 : decode cX2_worthOf 16 = .ok (.goto 4, 3) := by decide +kernel
theorem dX2_worthOf_19 : decode cX2_worthOf 19 = .ok (.iconst 0, 1) := by decide +kernel
theorem dX2_worthOf_20 : decode cX2_worthOf 20 = .ok (.ireturn, 1) := by decide +kernel
theorem dX2_codeEndOf_0 : decode cX2_codeEndOf 0 = .ok (.iload_n 1, 1) := by decide +kernel
theorem dX2_codeEndOf_1 : decode cX2_codeEndOf 1 = .ok (.ifCond .lt 18, 3) := by decide +kernel
theorem dX2_codeEndOf_4 : decode cX2_codeEndOf 4 = .ok (.iload_n 1, 1) := by decide +kernel
theorem dX2_codeEndOf_5 : decode cX2_codeEndOf 5 = .ok (.bipush 8, 2) := by decide +kernel
theorem dX2_codeEndOf_7 : decode cX2_codeEndOf 7 = .ok (.if_icmp .ge 12, 3) := by decide +kernel
theorem dX2_codeEndOf_10 : decode cX2_codeEndOf 10 = .ok (.aload_n 0, 1) := by decide +kernel
theorem dX2_codeEndOf_11 : decode cX2_codeEndOf 11 = .ok (.getfield 20, 3) := by decide +kernel
theorem dX2_codeEndOf_14 : decode cX2_codeEndOf 14 = .ok (.iload_n 1, 1) := by decide +kernel
theorem dX2_codeEndOf_15 : decode cX2_codeEndOf 15 = .ok (.iaload, 1) := by decide +kernel
theorem dX2_codeEndOf_16 : decode cX2_codeEndOf 16 = .ok (.goto 4, 3) := by decide +kernel
theorem dX2_codeEndOf_19 : decode cX2_codeEndOf 19 = .ok (.iconst 0, 1) := by decide +kernel
theorem dX2_codeEndOf_20 : decode cX2_codeEndOf 20 = .ok (.ireturn, 1) := by decide +kernel
theorem dX2_holds_0 : decode cX2_holds 0 = .ok (.aload_n 0, 1) := by decide +kernel
theorem dX2_holds_1 : decode cX2_holds 1 = .ok (.iconst 0, 1) := by decide +kernel
theorem dX2_holds_2 : decode cX2_holds 2 = .ok (.putfield 36, 3) := by decide +kernel
theorem dX2_holds_5 : decode cX2_holds 5 = .ok (.aload_n 0, 1) := by decide +kernel
theorem dX2_holds_6 : decode cX2_holds 6 = .ok (.iload_n 1, 1) := by decide +kernel
theorem dX2_holds_7 : decode cX2_holds 7 = .ok (.invokevirtual 39, 3) := by decide +kernel
theorem dX2_holds_10 : decode cX2_holds 10 = .ok (.aload_n 0, 1) := by decide +kernel
theorem dX2_holds_11 : decode cX2_holds 11 = .ok (.getfield 23, 3) := by decide +kernel
theorem dX2_holds_14 : decode cX2_holds 14 = .ok (.arraylength, 1) := by decide +kernel
theorem dX2_holds_15 : decode cX2_holds 15 = .ok (.invokestatic 43, 3) := by decide +kernel
theorem dX2_holds_18 : decode cX2_holds 18 = .ok (.istore_n 3, 1) := by decide +kernel
theorem dX2_holds_19 : decode cX2_holds 19 = .ok (.iconst 0, 1) := by decide +kernel
theorem dX2_holds_20 : decode cX2_holds 20 = .ok (.aload_n 0, 1) := by decide +kernel
theorem dX2_holds_21 : decode cX2_holds 21 = .ok (.iload_n 1, 1) := by decide +kernel
theorem dX2_holds_22 : decode cX2_holds 22 = .ok (.iconst 1, 1) := by decide +kernel
theorem dX2_holds_23 : decode cX2_holds 23 = .ok (.isub, 1) := by decide +kernel
theorem dX2_holds_24 : decode cX2_holds 24 = .ok (.invokevirtual 39, 3) := by decide +kernel
theorem dX2_holds_27 : decode cX2_holds 27 = .ok (.invokestatic 49, 3) := by decide +kernel
theorem dX2_holds_30 : decode cX2_holds 30 = .ok (.istore 4, 2) := by decide +kernel
theorem dX2_holds_32 : decode cX2_holds 32 = .ok (.iload 4, 2) := by decide +kernel
theorem dX2_holds_34 : decode cX2_holds 34 = .ok (.istore 5, 2) := by decide +kernel
theorem dX2_holds_36 : decode cX2_holds 36 = .ok (.iload 5, 2) := by decide +kernel
theorem dX2_holds_38 : decode cX2_holds 38 = .ok (.iload_n 3, 1) := by decide +kernel
theorem dX2_holds_39 : decode cX2_holds 39 = .ok (.if_icmp .ge 21, 3) := by decide +kernel
theorem dX2_holds_42 : decode cX2_holds 42 = .ok (.aload_n 0, 1) := by decide +kernel
theorem dX2_holds_43 : decode cX2_holds 43 = .ok (.aload_n 0, 1) := by decide +kernel
theorem dX2_holds_44 : decode cX2_holds 44 = .ok (.getfield 23, 3) := by decide +kernel
theorem dX2_holds_47 : decode cX2_holds 47 = .ok (.iload 5, 2) := by decide +kernel
theorem dX2_holds_49 : decode cX2_holds 49 = .ok (.iaload, 1) := by decide +kernel
theorem dX2_holds_50 : decode cX2_holds 50 = .ok (.aload_n 2, 1) := by decide +kernel
theorem dX2_holds_51 : decode cX2_holds 51 = .ok (.invokevirtual 52, 3) := by decide +kernel
theorem dX2_holds_54 : decode cX2_holds 54 = .ok (.iinc 5 1, 3) := by decide +kernel
theorem dX2_holds_57 : decode cX2_holds 57 = .ok (.goto (-21), 3) := by decide +kernel
theorem dX2_holds_60 : decode cX2_holds 60 = .ok (.iload 4, 2) := by decide +kernel
theorem dX2_holds_62 : decode cX2_holds 62 = .ok (.iload_n 3, 1) := by decide +kernel
theorem dX2_holds_63 : decode cX2_holds 63 = .ok (.if_icmp .ge 10, 3) := by decide +kernel
theorem dX2_holds_66 : decode cX2_holds 66 = .ok (.aload_n 0, 1) := by decide +kernel
theorem dX2_holds_67 : decode cX2_holds 67 = .ok (.invokevirtual 56, 3) := by decide +kernel
theorem dX2_holds_70 : decode cX2_holds 70 = .ok (.ifCond .eq 7, 3) := by decide +kernel
theorem dX2_holds_73 : decode cX2_holds 73 = .ok (.iconst 1, 1) := by decide +kernel
theorem dX2_holds_74 : decode cX2_holds 74 = .ok (.goto 4, 3) := by decide +kernel
theorem dX2_holds_77 : decode cX2_holds 77 = .ok (.iconst 0, 1) := by decide +kernel
theorem dX2_holds_78 : decode cX2_holds 78 = .ok (.ireturn, 1) := by decide +kernel
theorem dX2_doStep_0 : decode cX2_doStep 0 = .ok (.iload_n 1, 1) := by decide +kernel
theorem dX2_doStep_1 : decode cX2_doStep 1 = .ok (.ifCond .lt 11, 3) := by decide +kernel
theorem dX2_doStep_4 : decode cX2_doStep 4 = .ok (.aload_n 0, 1) := by decide +kernel
theorem dX2_doStep_5 : decode cX2_doStep 5 = .ok (.iload_n 1, 1) := by decide +kernel
theorem dX2_doStep_6 : decode cX2_doStep 6 = .ok (.invokevirtual 60, 3) := by decide +kernel
theorem dX2_doStep_9 : decode cX2_doStep 9 = .ok (.goto 68, 3) := by decide +kernel
theorem dX2_doStep_12 : decode cX2_doStep 12 = .ok (.iload_n 1, 1) := by decide +kernel
theorem dX2_doStep_13 : decode cX2_doStep 13 = .ok (.bipush (-5), 2) := by decide +kernel
theorem dX2_doStep_15 : decode cX2_doStep 15 = .ok (.if_icmp .lt 15, 3) := by decide +kernel
theorem dX2_doStep_18 : decode cX2_doStep 18 = .ok (.aload_n 0, 1) := by decide +kernel
theorem dX2_doStep_19 : decode cX2_doStep 19 = .ok (.aload_n 2, 1) := by decide +kernel
theorem dX2_doStep_20 : decode cX2_doStep 20 = .ok (.iload_n 1, 1) := by decide +kernel
theorem dX2_doStep_21 : decode cX2_doStep 21 = .ok (.invokevirtual 64, 3) := by decide +kernel
theorem dX2_doStep_24 : decode cX2_doStep 24 = .ok (.invokevirtual 60, 3) := by decide +kernel
theorem dX2_doStep_27 : decode cX2_doStep 27 = .ok (.goto 50, 3) := by decide +kernel
theorem dX2_doStep_30 : decode cX2_doStep 30 = .ok (.iload_n 1, 1) := by decide +kernel
theorem dX2_doStep_31 : decode cX2_doStep 31 = .ok (.bipush (-6), 2) := by decide +kernel
theorem dX2_doStep_33 : decode cX2_doStep 33 = .ok (.if_icmp .ne 22, 3) := by decide +kernel
theorem dX2_doStep_36 : decode cX2_doStep 36 = .ok (.aload_n 0, 1) := by decide +kernel
theorem dX2_doStep_37 : decode cX2_doStep 37 = .ok (.aload_n 0, 1) := by decide +kernel
theorem dX2_doStep_38 : decode cX2_doStep 38 = .ok (.invokevirtual 56, 3) := by decide +kernel
theorem dX2_doStep_41 : decode cX2_doStep 41 = .ok (.ifCond .ne 7, 3) := by decide +kernel
theorem dX2_doStep_44 : decode cX2_doStep 44 = .ok (.iconst 1, 1) := by decide +kernel
theorem dX2_doStep_45 : decode cX2_doStep 45 = .ok (.goto 4, 3) := by decide +kernel
theorem dX2_doStep_48 : decode cX2_doStep 48 = .ok (.iconst 0, 1) := by decide +kernel
theorem dX2_doStep_49 : decode cX2_doStep 49 = .ok (.invokevirtual 60, 3) := by decide +kernel
theorem dX2_doStep_52 : decode cX2_doStep 52 = .ok (.goto 25, 3) := by decide +kernel
theorem dX2_doStep_55 : decode cX2_doStep 55 = .ok (.aload_n 0, 1) := by decide +kernel
theorem dX2_doStep_56 : decode cX2_doStep 56 = .ok (.invokevirtual 56, 3) := by decide +kernel
theorem dX2_doStep_59 : decode cX2_doStep 59 = .ok (.istore_n 3, 1) := by decide +kernel
theorem dX2_doStep_60 : decode cX2_doStep 60 = .ok (.aload_n 0, 1) := by decide +kernel
theorem dX2_doStep_61 : decode cX2_doStep 61 = .ok (.invokevirtual 56, 3) := by decide +kernel
theorem dX2_doStep_64 : decode cX2_doStep 64 = .ok (.istore 4, 2) := by decide +kernel
theorem dX2_doStep_66 : decode cX2_doStep 66 = .ok (.aload_n 0, 1) := by decide +kernel
theorem dX2_doStep_67 : decode cX2_doStep 67 = .ok (.iload_n 1, 1) := by decide +kernel
theorem dX2_doStep_68 : decode cX2_doStep 68 = .ok (.iload 4, 2) := by decide +kernel
theorem dX2_doStep_70 : decode cX2_doStep 70 = .ok (.iload_n 3, 1) := by decide +kernel
theorem dX2_doStep_71 : decode cX2_doStep 71 = .ok (.invokestatic 69, 3) := by decide +kernel
theorem dX2_doStep_74 : decode cX2_doStep 74 = .ok (.invokevirtual 60, 3) := by decide +kernel
theorem dX2_doStep_77 : decode cX2_doStep 77 = .ok (.return_, 1) := by decide +kernel
theorem dX2_joined_0 : decode cX2_joined 0 = .ok (.iload_n 0, 1) := by decide +kernel
theorem dX2_joined_1 : decode cX2_joined 1 = .ok (.tableswitch 92 (-13) (-7) #[88, 84, 73, 62, 51, 47, 43], 43) := by decide +kernel
theorem dX2_joined_44 : decode cX2_joined 44 = .ok (.iload_n 1, 1) := by decide +kernel
theorem dX2_joined_45 : decode cX2_joined 45 = .ok (.iload_n 2, 1) := by decide +kernel
theorem dX2_joined_46 : decode cX2_joined 46 = .ok (.iand, 1) := by decide +kernel
theorem dX2_joined_47 : decode cX2_joined 47 = .ok (.ireturn, 1) := by decide +kernel
theorem dX2_joined_48 : decode cX2_joined 48 = .ok (.iload_n 1, 1) := by decide +kernel
theorem dX2_joined_49 : decode cX2_joined 49 = .ok (.iload_n 2, 1) := by decide +kernel
theorem dX2_joined_50 : decode cX2_joined 50 = .ok (.ior, 1) := by decide +kernel
theorem dX2_joined_51 : decode cX2_joined 51 = .ok (.ireturn, 1) := by decide +kernel
theorem dX2_joined_52 : decode cX2_joined 52 = .ok (.iload_n 1, 1) := by decide +kernel
theorem dX2_joined_53 : decode cX2_joined 53 = .ok (.iload_n 2, 1) := by decide +kernel
theorem dX2_joined_54 : decode cX2_joined 54 = .ok (.if_icmp .ge 7, 3) := by decide +kernel
theorem dX2_joined_57 : decode cX2_joined 57 = .ok (.iconst 1, 1) := by decide +kernel
theorem dX2_joined_58 : decode cX2_joined 58 = .ok (.goto 4, 3) := by decide +kernel
theorem dX2_joined_61 : decode cX2_joined 61 = .ok (.iconst 0, 1) := by decide +kernel
theorem dX2_joined_62 : decode cX2_joined 62 = .ok (.ireturn, 1) := by decide +kernel
theorem dX2_joined_63 : decode cX2_joined 63 = .ok (.iload_n 1, 1) := by decide +kernel
theorem dX2_joined_64 : decode cX2_joined 64 = .ok (.iload_n 2, 1) := by decide +kernel
theorem dX2_joined_65 : decode cX2_joined 65 = .ok (.if_icmp .le 7, 3) := by decide +kernel
theorem dX2_joined_68 : decode cX2_joined 68 = .ok (.iconst 1, 1) := by decide +kernel
theorem dX2_joined_69 : decode cX2_joined 69 = .ok (.goto 4, 3) := by decide +kernel
theorem dX2_joined_72 : decode cX2_joined 72 = .ok (.iconst 0, 1) := by decide +kernel
theorem dX2_joined_73 : decode cX2_joined 73 = .ok (.ireturn, 1) := by decide +kernel
theorem dX2_joined_74 : decode cX2_joined 74 = .ok (.iload_n 1, 1) := by decide +kernel
theorem dX2_joined_75 : decode cX2_joined 75 = .ok (.iload_n 2, 1) := by decide +kernel
theorem dX2_joined_76 : decode cX2_joined 76 = .ok (.if_icmp .ne 7, 3) := by decide +kernel
theorem dX2_joined_79 : decode cX2_joined 79 = .ok (.iconst 1, 1) := by decide +kernel
theorem dX2_joined_80 : decode cX2_joined 80 = .ok (.goto 4, 3) := by decide +kernel
theorem dX2_joined_83 : decode cX2_joined 83 = .ok (.iconst 0, 1) := by decide +kernel
theorem dX2_joined_84 : decode cX2_joined 84 = .ok (.ireturn, 1) := by decide +kernel
theorem dX2_joined_85 : decode cX2_joined 85 = .ok (.iload_n 1, 1) := by decide +kernel
theorem dX2_joined_86 : decode cX2_joined 86 = .ok (.iload_n 2, 1) := by decide +kernel
theorem dX2_joined_87 : decode cX2_joined 87 = .ok (.iadd, 1) := by decide +kernel
theorem dX2_joined_88 : decode cX2_joined 88 = .ok (.ireturn, 1) := by decide +kernel
theorem dX2_joined_89 : decode cX2_joined 89 = .ok (.iload_n 1, 1) := by decide +kernel
theorem dX2_joined_90 : decode cX2_joined 90 = .ok (.iload_n 2, 1) := by decide +kernel
theorem dX2_joined_91 : decode cX2_joined 91 = .ok (.isub, 1) := by decide +kernel
theorem dX2_joined_92 : decode cX2_joined 92 = .ok (.ireturn, 1) := by decide +kernel
theorem dX2_joined_93 : decode cX2_joined 93 = .ok (.iconst 0, 1) := by decide +kernel
theorem dX2_joined_94 : decode cX2_joined 94 = .ok (.ireturn, 1) := by decide +kernel
theorem dX2_push_0 : decode cX2_push 0 = .ok (.aload_n 0, 1) := by decide +kernel
theorem dX2_push_1 : decode cX2_push 1 = .ok (.getfield 36, 3) := by decide +kernel
theorem dX2_push_4 : decode cX2_push 4 = .ok (.ifCond .lt 35, 3) := by decide +kernel
theorem dX2_push_7 : decode cX2_push 7 = .ok (.aload_n 0, 1) := by decide +kernel
theorem dX2_push_8 : decode cX2_push 8 = .ok (.getfield 36, 3) := by decide +kernel
theorem dX2_push_11 : decode cX2_push 11 = .ok (.aload_n 0, 1) := by decide +kernel
theorem dX2_push_12 : decode cX2_push 12 = .ok (.getfield 26, 3) := by decide +kernel
theorem dX2_push_15 : decode cX2_push 15 = .ok (.arraylength, 1) := by decide +kernel
theorem dX2_push_16 : decode cX2_push 16 = .ok (.if_icmp .ge 23, 3) := by decide +kernel
theorem dX2_push_19 : decode cX2_push 19 = .ok (.aload_n 0, 1) := by decide +kernel
theorem dX2_push_20 : decode cX2_push 20 = .ok (.getfield 26, 3) := by decide +kernel
theorem dX2_push_23 : decode cX2_push 23 = .ok (.aload_n 0, 1) := by decide +kernel
theorem dX2_push_24 : decode cX2_push 24 = .ok (.getfield 36, 3) := by decide +kernel
theorem dX2_push_27 : decode cX2_push 27 = .ok (.iload_n 1, 1) := by decide +kernel
theorem dX2_push_28 : decode cX2_push 28 = .ok (.iastore, 1) := by decide +kernel
theorem dX2_push_29 : decode cX2_push 29 = .ok (.aload_n 0, 1) := by decide +kernel
theorem dX2_push_30 : decode cX2_push 30 = .ok (.dup, 1) := by decide +kernel
theorem dX2_push_31 : decode cX2_push 31 = .ok (.getfield 36, 3) := by decide +kernel
theorem dX2_push_34 : decode cX2_push 34 = .ok (.iconst 1, 1) := by decide +kernel
theorem dX2_push_35 : decode cX2_push 35 = .ok (.iadd, 1) := by decide +kernel
theorem dX2_push_36 : decode cX2_push 36 = .ok (.putfield 36, 3) := by decide +kernel
theorem dX2_push_39 : decode cX2_push 39 = .ok (.return_, 1) := by decide +kernel
theorem dX2_pop_0 : decode cX2_pop 0 = .ok (.aload_n 0, 1) := by decide +kernel
theorem dX2_pop_1 : decode cX2_pop 1 = .ok (.getfield 36, 3) := by decide +kernel
theorem dX2_pop_4 : decode cX2_pop 4 = .ok (.ifCond .le 15, 3) := by decide +kernel
theorem dX2_pop_7 : decode cX2_pop 7 = .ok (.aload_n 0, 1) := by decide +kernel
theorem dX2_pop_8 : decode cX2_pop 8 = .ok (.getfield 36, 3) := by decide +kernel
theorem dX2_pop_11 : decode cX2_pop 11 = .ok (.aload_n 0, 1) := by decide +kernel
theorem dX2_pop_12 : decode cX2_pop 12 = .ok (.getfield 26, 3) := by decide +kernel
theorem dX2_pop_15 : decode cX2_pop 15 = .ok (.arraylength, 1) := by decide +kernel
theorem dX2_pop_16 : decode cX2_pop 16 = .ok (.if_icmp .le 5, 3) := by decide +kernel
theorem dX2_pop_19 : decode cX2_pop 19 = .ok (.iconst 0, 1) := by decide +kernel
theorem dX2_pop_20 : decode cX2_pop 20 = .ok (.ireturn, 1) := by decide +kernel
