theorem dX2_pop_21 : decode cX2_pop 21 = .ok (.aload_n 0, 1) := by decide +kernel
theorem dX2_pop_22 : decode cX2_pop 22 = .ok (.dup, 1) := by decide +kernel
theorem dX2_pop_23 : decode cX2_pop 23 = .ok (.getfield 36, 3) := by decide +kernel
theorem dX2_pop_26 : decode cX2_pop 26 = .ok (.iconst 1, 1) := by decide +kernel
theorem dX2_pop_27 : decode cX2_pop 27 = .ok (.isub, 1) := by decide +kernel
theorem dX2_pop_28 : decode cX2_pop 28 = .ok (.putfield 36, 3) := by decide +kernel
theorem dX2_pop_31 : decode cX2_pop 31 = .ok (.aload_n 0, 1) := by decide +kernel
theorem dX2_pop_32 : decode cX2_pop 32 = .ok (.getfield 26, 3) := by decide +kernel
theorem dX2_pop_35 : decode cX2_pop 35 = .ok (.aload_n 0, 1) := by decide +kernel
theorem dX2_pop_36 : decode cX2_pop 36 = .ok (.getfield 36, 3) := by decide +kernel
theorem dX2_pop_39 : decode cX2_pop 39 = .ok (.iaload, 1) := by decide +kernel
theorem dX2_pop_40 : decode cX2_pop 40 = .ok (.ireturn, 1) := by decide +kernel
theorem dX3_init_0 : decode cX3_init 0 = .ok (.aload_n 0, 1) := by decide +kernel
theorem dX3_init_1 : decode cX3_init 1 = .ok (.invokespecial 3, 3) := by decide +kernel
theorem dX3_init_4 : decode cX3_init 4 = .ok (.aload_n 0, 1) := by decide +kernel
theorem dX3_init_5 : decode cX3_init 5 = .ok (.sipush 301, 3) := by decide +kernel
theorem dX3_init_8 : decode cX3_init 8 = .ok (.newarray .int, 2) := by decide +kernel
theorem dX3_init_10 : decode cX3_init 10 = .ok (.putfield 11, 3) := by decide +kernel
theorem dX3_init_13 : decode cX3_init 13 = .ok (.aload_n 0, 1) := by decide +kernel
theorem dX3_init_14 : decode cX3_init 14 = .ok (.sipush 301, 3) := by decide +kernel
theorem dX3_init_17 : decode cX3_init 17 = .ok (.newarray .int, 2) := by decide +kernel
theorem dX3_init_19 : decode cX3_init 19 = .ok (.putfield 15, 3) := by decide +kernel
theorem dX3_init_22 : decode cX3_init 22 = .ok (.aload_n 0, 1) := by decide +kernel
theorem dX3_init_23 : decode cX3_init 23 = .ok (.sipush 301, 3) := by decide +kernel
theorem dX3_init_26 : decode cX3_init 26 = .ok (.newarray .int, 2) := by decide +kernel
theorem dX3_init_28 : decode cX3_init 28 = .ok (.putfield 18, 3) := by decide +kernel
theorem dX3_init_31 : decode cX3_init 31 = .ok (.aload_n 0, 1) := by decide +kernel
theorem dX3_init_32 : decode cX3_init 32 = .ok (.sipush 301, 3) := by decide +kernel
theorem dX3_init_35 : decode cX3_init 35 = .ok (.newarray .int, 2) := by decide +kernel
theorem dX3_init_37 : decode cX3_init 37 = .ok (.putfield 21, 3) := by decide +kernel
theorem dX3_init_40 : decode cX3_init 40 = .ok (.aload_n 0, 1) := by decide +kernel
theorem dX3_init_41 : decode cX3_init 41 = .ok (.sipush 301, 3) := by decide +kernel
theorem dX3_init_44 : decode cX3_init 44 = .ok (.newarray .int, 2) := by decide +kernel
theorem dX3_init_46 : decode cX3_init 46 = .ok (.putfield 24, 3) := by decide +kernel
theorem dX3_init_49 : decode cX3_init 49 = .ok (.aload_n 0, 1) := by decide +kernel
theorem dX3_init_50 : decode cX3_init 50 = .ok (.iconst 0, 1) := by decide +kernel
theorem dX3_init_51 : decode cX3_init 51 = .ok (.putfield 27, 3) := by decide +kernel
theorem dX3_init_54 : decode cX3_init 54 = .ok (.return_, 1) := by decide +kernel
theorem dX3_firstFault_0 : decode cX3_firstFault 0 = .ok (.iconst 0, 1) := by decide +kernel
theorem dX3_firstFault_1 : decode cX3_firstFault 1 = .ok (.istore_n 1, 1) := by decide +kernel
theorem dX3_firstFault_2 : decode cX3_firstFault 2 = .ok (.iload_n 1, 1) := by decide +kernel
theorem dX3_firstFault_3 : decode cX3_firstFault 3 = .ok (.aload_n 0, 1) := by decide +kernel
theorem dX3_firstFault_4 : decode cX3_firstFault 4 = .ok (.getfield 31, 3) := by decide +kernel
theorem dX3_firstFault_7 : decode cX3_firstFault 7 = .ok (.if_icmp .ge 29, 3) := by decide +kernel
theorem dX3_firstFault_10 : decode cX3_firstFault 10 = .ok (.iload_n 1, 1) := by decide +kernel
theorem dX3_firstFault_11 : decode cX3_firstFault 11 = .ok (.sipush 300, 3) := by decide +kernel
theorem dX3_firstFault_14 : decode cX3_firstFault 14 = .ok (.if_icmp .ge 14, 3) := by decide +kernel
theorem dX3_firstFault_17 : decode cX3_firstFault 17 = .ok (.aload_n 0, 1) := by decide +kernel
theorem dX3_firstFault_18 : decode cX3_firstFault 18 = .ok (.iload_n 1, 1) := by decide +kernel
theorem dX3_firstFault_19 : decode cX3_firstFault 19 = .ok (.invokevirtual 36, 3) := by decide +kernel
theorem dX3_firstFault_22 : decode cX3_firstFault 22 = .ok (.invokestatic 40, 3) := by decide +kernel
theorem dX3_firstFault_25 : decode cX3_firstFault 25 = .ok (.ifCond .ne 5, 3) := by decide +kernel
theorem dX3_firstFault_28 : decode cX3_firstFault 28 = .ok (.iload_n 1, 1) := by decide +kernel
theorem dX3_firstFault_29 : decode cX3_firstFault 29 = .ok (.ireturn, 1) := by decide +kernel
theorem dX3_firstFault_30 : decode cX3_firstFault 30 = .ok (.iinc 1 1, 3) := by decide +kernel
theorem dX3_firstFault_33 : decode cX3_firstFault 33 = .ok (.goto (-31), 3) := by decide +kernel
theorem dX3_firstFault_36 : decode cX3_firstFault 36 = .ok (.iconst (-1), 1) := by decide +kernel
theorem dX3_firstFault_37 : decode cX3_firstFault 37 = .ok (.ireturn, 1) := by decide +kernel
theorem dX3_isMark_0 : decode cX3_isMark 0 = .ok (.iload_n 0, 1) := by decide +kernel
theorem dX3_isMark_1 : decode cX3_isMark 1 = .ok (.bipush 46, 2) := by decide +kernel
theorem dX3_isMark_3 : decode cX3_isMark 3 = .ok (.if_icmp .eq 27, 3) := by decide +kernel
theorem dX3_isMark_6 : decode cX3_isMark 6 = .ok (.iload_n 0, 1) := by decide +kernel
theorem dX3_isMark_7 : decode cX3_isMark 7 = .ok (.bipush 107, 2) := by decide +kernel
theorem dX3_isMark_9 : decode cX3_isMark 9 = .ok (.if_icmp .eq 21, 3) := by decide +kernel
theorem dX3_isMark_12 : decode cX3_isMark 12 = .ok (.iload_n 0, 1) := by decide +kernel
theorem dX3_isMark_13 : decode cX3_isMark 13 = .ok (.bipush 115, 2) := by decide +kernel
theorem dX3_isMark_15 : decode cX3_isMark 15 = .ok (.if_icmp .eq 15, 3) := by decide +kernel
theorem dX3_isMark_18 : decode cX3_isMark 18 = .ok (.iload_n 0, 1) := by decide +kernel
theorem dX3_isMark_19 : decode cX3_isMark 19 = .ok (.bipush 111, 2) := by decide +kernel
theorem dX3_isMark_21 : decode cX3_isMark 21 = .ok (.if_icmp .eq 9, 3) := by decide +kernel
theorem dX3_isMark_24 : decode cX3_isMark 24 = .ok (.iload_n 0, 1) := by decide +kernel
theorem dX3_isMark_25 : decode cX3_isMark 25 = .ok (.bipush 112, 2) := by decide +kernel
theorem dX3_isMark_27 : decode cX3_isMark 27 = .ok (.if_icmp .ne 7, 3) := by decide +kernel
theorem dX3_isMark_30 : decode cX3_isMark 30 = .ok (.iconst 1, 1) := by decide +kernel
theorem dX3_isMark_31 : decode cX3_isMark 31 = .ok (.goto 4, 3) := by decide +kernel
theorem dX3_isMark_34 : decode cX3_isMark 34 = .ok (.iconst 0, 1) := by decide +kernel
theorem dX3_isMark_35 : decode cX3_isMark 35 = .ok (.ireturn, 1) := by decide +kernel
theorem dX3_take_0 : decode cX3_take 0 = .ok (.aload_n 0, 1) := by decide +kernel
theorem dX3_take_1 : decode cX3_take 1 = .ok (.aload_n 1, 1) := by decide +kernel
theorem dX3_take_2 : decode cX3_take 2 = .ok (.getfield 31, 3) := by decide +kernel
theorem dX3_take_5 : decode cX3_take 5 = .ok (.sipush 300, 3) := by decide +kernel
theorem dX3_take_8 : decode cX3_take 8 = .ok (.invokestatic 44, 3) := by decide +kernel
theorem dX3_take_11 : decode cX3_take 11 = .ok (.putfield 27, 3) := by decide +kernel
theorem dX3_take_14 : decode cX3_take 14 = .ok (.iconst 0, 1) := by decide +kernel
theorem dX3_take_15 : decode cX3_take 15 = .ok (.istore_n 2, 1) := by decide +kernel
theorem dX3_take_16 : decode cX3_take 16 = .ok (.iload_n 2, 1) := by decide +kernel
theorem dX3_take_17 : decode cX3_take 17 = .ok (.aload_n 0, 1) := by decide +kernel
theorem dX3_take_18 : decode cX3_take 18 = .ok (.getfield 27, 3) := by decide +kernel
theorem dX3_take_21 : decode cX3_take 21 = .ok (.if_icmp .ge 145, 3) := by decide +kernel
theorem dX3_take_24 : decode cX3_take 24 = .ok (.aload_n 1, 1) := by decide +kernel
theorem dX3_take_25 : decode cX3_take 25 = .ok (.iload_n 2, 1) := by decide +kernel
theorem dX3_take_26 : decode cX3_take 26 = .ok (.invokevirtual 36, 3) := by decide +kernel
theorem dX3_take_29 : decode cX3_take 29 = .ok (.istore_n 3, 1) := by decide +kernel
theorem dX3_take_30 : decode cX3_take 30 = .ok (.aload_n 0, 1) := by decide +kernel
theorem dX3_take_31 : decode cX3_take 31 = .ok (.getfield 11, 3) := by decide +kernel
theorem dX3_take_34 : decode cX3_take 34 = .ok (.iload_n 2, 1) := by decide +kernel
theorem dX3_take_35 : decode cX3_take 35 = .ok (.iconst 1, 1) := by decide +kernel
theorem dX3_take_36 : decode cX3_take 36 = .ok (.iadd, 1) := by decide +kernel
theorem dX3_take_37 : decode cX3_take 37 = .ok (.aload_n 0, 1) := by decide +kernel
theorem dX3_take_38 : decode cX3_take 38 = .ok (.getfield 11, 3) := by decide +kernel
theorem dX3_take_41 : decode cX3_take 41 = .ok (.iload_n 2, 1) := by decide +kernel
theorem dX3_take_42 : decode cX3_take 42 = .ok (.iaload, 1) := by decide +kernel
theorem dX3_take_43 : decode cX3_take 43 = .ok (.iload_n 3, 1) := by decide +kernel
theorem dX3_take_44 : decode cX3_take 44 = .ok (.bipush 107, 2) := by decide +kernel
theorem dX3_take_46 : decode cX3_take 46 = .ok (.if_icmp .ne 7, 3) := by decide +kernel
theorem dX3_take_49 : decode cX3_take 49 = .ok (.iconst 1, 1) := by decide +kernel
theorem dX3_take_50 : decode cX3_take 50 = .ok (.goto 4, 3) := by decide +kernel
theorem dX3_take_53 : decode cX3_take 53 = .ok (.iconst 0, 1) := by decide +kernel
theorem dX3_take_54 : decode cX3_take 54 = .ok (.iadd, 1) := by decide +kernel
theorem dX3_take_55 : decode cX3_take 55 = .ok (.iastore, 1) := by decide +kernel
theorem dX3_take_56 : decode cX3_take 56 = .ok (.aload_n 0, 1) := by decide +kernel
theorem dX3_take_57 : decode cX3_take 57 = .ok (.getfield 15, 3) := by decide +kernel
theorem dX3_take_60 : decode cX3_take 60 = .ok (.iload_n 2, 1) := by decide +kernel
theorem dX3_take_61 : decode cX3_take 61 = .ok (.iconst 1, 1) := by decide +kernel
theorem dX3_take_62 : decode cX3_take 62 = .ok (.iadd, 1) := by decide +kernel
theorem dX3_take_63 : decode cX3_take 63 = .ok (.aload_n 0, 1) := by decide +kernel
theorem dX3_take_64 : decode cX3_take 64 = .ok (.getfield 15, 3) := by decide +kernel
theorem dX3_take_67 : decode cX3_take 67 = .ok (.iload_n 2, 1) := by decide +kernel
theorem dX3_take_68 : decode cX3_take 68 = .ok (.iaload, 1) := by decide +kernel
theorem dX3_take_69 : decode cX3_take 69 = .ok (.iload_n 3, 1) := by decide +kernel
theorem dX3_take_70 : decode cX3_take 70 = .ok (.bipush 115, 2) := by decide +kernel
theorem dX3_take_72 : decode cX3_take 72 = .ok (.if_icmp .ne 7, 3) := by decide +kernel
theorem dX3_take_75 : decode cX3_take 75 = .ok (.iconst 1, 1) := by decide +kernel
theorem dX3_take_76 : decode cX3_take 76 = .ok (.goto 4, 3) := by decide +kernel
theorem dX3_take_79 : decode cX3_take 79 = .ok (.iconst 0, 1) := by decide +kernel
theorem dX3_take_80 : decode cX3_take 80 = .ok (.iadd, 1) := by decide +kernel
theorem dX3_take_81 : decode cX3_take 81 = .ok (.iastore, 1) := by decide +kernel
theorem dX3_take_82 : decode cX3_take 82 = .ok (.aload_n 0, 1) := by decide +kernel
theorem dX3_take_83 : decode cX3_take 83 = .ok (.getfield 18, 3) := by decide +kernel
theorem dX3_take_86 : decode cX3_take 86 = .ok (.iload_n 2, 1) := by decide +kernel
theorem dX3_take_87 : decode cX3_take 87 = .ok (.iconst 1, 1) := by decide +kernel
theorem dX3_take_88 : decode cX3_take 88 = .ok (.iadd, 1) := by decide +kernel
theorem dX3_take_89 : decode cX3_take 89 = .ok (.aload_n 0, 1) := by decide +kernel
theorem dX3_take_90 : decode cX3_take 90 = .ok (.getfield 18, 3) := by decide +kernel
theorem dX3_take_93 : decode cX3_take 93 = .ok (.iload_n 2, 1) := by decide +kernel
theorem dX3_take_94 : decode cX3_take 94 = .ok (.iaload, 1) := by decide +kernel
theorem dX3_take_95 : decode cX3_take 95 = .ok (.iload_n 3, 1) := by decide +kernel
theorem dX3_take_96 : decode cX3_take 96 = .ok (.bipush 111, 2) := by decide +kernel
theorem dX3_take_98 : decode cX3_take 98 = .ok (.if_icmp .ne 7, 3) := by decide +kernel
theorem dX3_take_101 : decode cX3_take 101 = .ok (.iconst 1, 1) := by decide +kernel
theorem dX3_take_102 : decode cX3_take 102 = .ok (.goto 4, 3) := by decide +kernel
theorem dX3_take_105 : decode cX3_take 105 = .ok (.iconst 0, 1) := by decide +kernel
theorem dX3_take_106 : decode cX3_take 106 = .ok (.iadd, 1) := by decide +kernel
theorem dX3_take_107 : decode cX3_take 107 = .ok (.iastore, 1) := by decide +kernel
theorem dX3_take_108 : decode cX3_take 108 = .ok (.aload_n 0, 1) := by decide +kernel
theorem dX3_take_109 : decode cX3_take 109 = .ok (.getfield 21, 3) := by decide +kernel
theorem dX3_take_112 : decode cX3_take 112 = .ok (.iload_n 2, 1) := by decide +kernel
theorem dX3_take_113 : decode cX3_take 113 = .ok (.iconst 1, 1) := by decide +kernel
theorem dX3_take_114 : decode cX3_take 114 = .ok (.iadd, 1) := by decide +kernel
theorem dX3_take_115 : decode cX3_take 115 = .ok (.aload_n 0, 1) := by decide +kernel
theorem dX3_take_116 : decode cX3_take 116 = .ok (.getfield 21, 3) := by decide +kernel
theorem dX3_take_119 : decode cX3_take 119 = .ok (.iload_n 2, 1) := by decide +kernel
theorem dX3_take_120 : decode cX3_take 120 = .ok (.iaload, 1) := by decide +kernel
theorem dX3_take_121 : decode cX3_take 121 = .ok (.iload_n 3, 1) := by decide +kernel
theorem dX3_take_122 : decode cX3_take 122 = .ok (.bipush 112, 2) := by decide +kernel
theorem dX3_take_124 : decode cX3_take 124 = .ok (.if_icmp .ne 7, 3) := by decide +kernel
theorem dX3_take_127 : decode cX3_take 127 = .ok (.iconst 1, 1) := by decide +kernel
theorem dX3_take_128 : decode cX3_take 128 = .ok (.goto 4, 3) := by decide +kernel
theorem dX3_take_131 : decode cX3_take 131 = .ok (.iconst 0, 1) := by decide +kernel
theorem dX3_take_132 : decode cX3_take 132 = .ok (.iadd, 1) := by decide +kernel
theorem dX3_take_133 : decode cX3_take 133 = .ok (.iastore, 1) := by decide +kernel
theorem dX3_take_134 : decode cX3_take 134 = .ok (.aload_n 0, 1) := by decide +kernel
theorem dX3_take_135 : decode cX3_take 135 = .ok (.getfield 24, 3) := by decide +kernel
theorem dX3_take_138 : decode cX3_take 138 = .ok (.iload_n 2, 1) := by decide +kernel
theorem dX3_take_139 : decode cX3_take 139 = .ok (.iconst 1, 1) := by decide +kernel
theorem dX3_take_140 : decode cX3_take 140 = .ok (.iadd, 1) := by decide +kernel
theorem dX3_take_141 : decode cX3_take 141 = .ok (.iload_n 3, 1) := by decide +kernel
theorem dX3_take_142 : decode cX3_take 142 = .ok (.bipush 46, 2) := by decide +kernel
theorem dX3_take_144 : decode cX3_take 144 = .ok (.if_icmp .ne 14, 3) := by decide +kernel
theorem dX3_take_147 : decode cX3_take 147 = .ok (.aload_n 0, 1) := by decide +kernel
theorem dX3_take_148 : decode cX3_take 148 = .ok (.getfield 24, 3) := by decide +kernel
theorem dX3_take_151 : decode cX3_take 151 = .ok (.iload_n 2, 1) := by decide +kernel
theorem dX3_take_152 : decode cX3_take 152 = .ok (.iaload, 1) := by decide +kernel
theorem dX3_take_153 : decode cX3_take 153 = .ok (.iconst 1, 1) := by decide +kernel
theorem dX3_take_154 : decode cX3_take 154 = .ok (.iadd, 1) := by decide +kernel
theorem dX3_take_155 : decode cX3_take 155 = .ok (.goto 4, 3) := by decide +kernel
theorem dX3_take_158 : decode cX3_take 158 = .ok (.iconst 0, 1) := by decide +kernel
theorem dX3_take_159 : decode cX3_take 159 = .ok (.iastore, 1) := by decide +kernel
theorem dX3_take_160 : decode cX3_take 160 = .ok (.iinc 2 1, 3) := by decide +kernel
theorem dX3_take_163 : decode cX3_take 163 = .ok (.goto (-147), 3) := by decide +kernel
theorem dX3_take_166 : decode cX3_take 166 = .ok (.return_, 1) := by decide +kernel
theorem dX3_listRuns_0 : decode cX3_listRuns 0 = .ok (.iconst 0, 1) := by decide +kernel
theorem dX3_listRuns_1 : decode cX3_listRuns 1 = .ok (.istore_n 3, 1) := by decide +kernel
theorem dX3_listRuns_2 : decode cX3_listRuns 2 = .ok (.iconst 1, 1) := by decide +kernel
theorem dX3_listRuns_3 : decode cX3_listRuns 3 = .ok (.istore 4, 2) := by decide +kernel
theorem dX3_listRuns_5 : decode cX3_listRuns 5 = .ok (.iload_n 1, 1) := by decide +kernel
theorem dX3_listRuns_6 : decode cX3_listRuns 6 = .ok (.ifCond .lt 51, 3) := by decide +kernel
theorem dX3_listRuns_9 : decode cX3_listRuns 9 = .ok (.iload_n 1, 1) := by decide +kernel
theorem dX3_listRuns_10 : decode cX3_listRuns 10 = .ok (.iload 4, 2) := by decide +kernel
theorem dX3_listRuns_12 : decode cX3_listRuns 12 = .ok (.iadd, 1) := by decide +kernel
theorem dX3_listRuns_13 : decode cX3_listRuns 13 = .ok (.aload_n 0, 1) := by decide +kernel
theorem dX3_listRuns_14 : decode cX3_listRuns 14 = .ok (.getfield 27, 3) := by decide +kernel
theorem dX3_listRuns_17 : decode cX3_listRuns 17 = .ok (.if_icmp .gt 40, 3) := by decide +kernel
theorem dX3_listRuns_20 : decode cX3_listRuns 20 = .ok (.iload 4, 2) := by decide +kernel
theorem dX3_listRuns_22 : decode cX3_listRuns 22 = .ok (.aload_n 2, 1) := by decide +kernel
theorem dX3_listRuns_23 : decode cX3_listRuns 23 = .ok (.arraylength, 1) := by decide +kernel
theorem dX3_listRuns_24 : decode cX3_listRuns 24 = .ok (.if_icmp .ge 33, 3) := by decide +kernel
theorem dX3_listRuns_27 : decode cX3_listRuns 27 = .ok (.iload_n 3, 1) := by decide +kernel
theorem dX3_listRuns_28 : decode cX3_listRuns 28 = .ok (.iload 4, 2) := by decide +kernel
theorem dX3_listRuns_30 : decode cX3_listRuns 30 = .ok (.aload_n 0, 1) := by decide +kernel
theorem dX3_listRuns_31 : decode cX3_listRuns 31 = .ok (.getfield 24, 3) := by decide +kernel
theorem dX3_listRuns_34 : decode cX3_listRuns 34 = .ok (.iload_n 1, 1) := by decide +kernel
theorem dX3_listRuns_35 : decode cX3_listRuns 35 = .ok (.iload 4, 2) := by decide +kernel
theorem dX3_listRuns_37 : decode cX3_listRuns 37 = .ok (.iadd, 1) := by decide +kernel
theorem dX3_listRuns_38 : decode cX3_listRuns 38 = .ok (.iaload, 1) := by decide +kernel
theorem dX3_listRuns_39 : decode cX3_listRuns 39 = .ok (.invokestatic 44, 3) := by decide +kernel
theorem dX3_listRuns_42 : decode cX3_listRuns 42 = .ok (.invokestatic 50, 3) := by decide +kernel
theorem dX3_listRuns_45 : decode cX3_listRuns 45 = .ok (.istore_n 3, 1) := by decide +kernel
theorem dX3_listRuns_46 : decode cX3_listRuns 46 = .ok (.aload_n 2, 1) := by decide +kernel
theorem dX3_listRuns_47 : decode cX3_listRuns 47 = .ok (.iload 4, 2) := by decide +kernel
theorem dX3_listRuns_49 : decode cX3_listRuns 49 = .ok (.iload_n 3, 1) := by decide +kernel
theorem dX3_listRuns_50 : decode cX3_listRuns 50 = .ok (.iastore, 1) := by decide +kernel
theorem dX3_listRuns_51 : decode cX3_listRuns 51 = .ok (.iinc 4 1, 3) := by decide +kernel
theorem dX3_listRuns_54 : decode cX3_listRuns 54 = .ok (.goto (-49), 3) := by decide +kernel
theorem dX3_listRuns_57 : decode cX3_listRuns 57 = .ok (.return_, 1) := by decide +kernel
theorem dX3_between_0 : decode cX3_between 0 = .ok (.iload_n 1, 1) := by decide +kernel
theorem dX3_between_1 : decode cX3_between 1 = .ok (.ifCond .lt 14, 3) := by decide +kernel
theorem dX3_between_4 : decode cX3_between 4 = .ok (.iload_n 1, 1) := by decide +kernel
theorem dX3_between_5 : decode cX3_between 5 = .ok (.iload_n 2, 1) := by decide +kernel
theorem dX3_between_6 : decode cX3_between 6 = .ok (.if_icmp .gt 9, 3) := by decide +kernel
theorem dX3_between_9 : decode cX3_between 9 = .ok (.iload_n 2, 1) := by decide +kernel
theorem dX3_between_10 : decode cX3_between 10 = .ok (.aload_n 0, 1) := by decide +kernel
theorem dX3_between_11 : decode cX3_between 11 = .ok (.arraylength, 1) := by decide +kernel
theorem dX3_between_12 : decode cX3_between 12 = .ok (.if_icmp .lt 5, 3) := by decide +kernel
theorem dX3_between_15 : decode cX3_between 15 = .ok (.iconst 0, 1) := by decide +kernel
theorem dX3_between_16 : decode cX3_between 16 = .ok (.ireturn, 1) := by decide +kernel
theorem dX3_between_17 : decode cX3_between 17 = .ok (.aload_n 0, 1) := by decide +kernel
theorem dX3_between_18 : decode cX3_between 18 = .ok (.iload_n 2, 1) := by decide +kernel
theorem dX3_between_19 : decode cX3_between 19 = .ok (.iaload, 1) := by decide +kernel
theorem dX3_between_20 : decode cX3_between 20 = .ok (.aload_n 0, 1) := by decide +kernel
theorem dX3_between_21 : decode cX3_between 21 = .ok (.iload_n 1, 1) := by decide +kernel
theorem dX3_between_22 : decode cX3_between 22 = .ok (.iaload, 1) := by decide +kernel
theorem dX3_between_23 : decode cX3_between 23 = .ok (.isub, 1) := by decide +kernel
theorem dX3_between_24 : decode cX3_between 24 = .ok (.ireturn, 1) := by decide +kernel
theorem dX4_init_0 : decode cX4_init 0 = .ok (.aload_n 0, 1) := by decide +kernel
theorem dX4_init_1 : decode cX4_init 1 = .ok (.invokespecial 3, 3) := by decide +kernel
theorem dX4_init_4 : decode cX4_init 4 = .ok (.aload_n 0, 1) := by decide +kernel
theorem dX4_init_5 : decode cX4_init 5 = .ok (.bipush 24, 2) := by decide +kernel
theorem dX4_init_7 : decode cX4_init 7 = .ok (.newarray .int, 2) := by decide +kernel
theorem dX4_init_9 : decode cX4_init 9 = .ok (.putfield 11, 3) := by decide +kernel
theorem dX4_init_12 : decode cX4_init 12 = .ok (.aload_n 0, 1) := by decide +kernel
theorem dX4_init_13 : decode cX4_init 13 = .ok (.iconst 0, 1) := by decide +kernel
theorem dX4_init_14 : decode cX4_init 14 = .ok (.putfield 15, 3) := by decide +kernel
theorem dX4_init_17 : decode cX4_init 17 = .ok (.aload_n 0, 1) := by decide +kernel
theorem dX4_init_18 : decode cX4_init 18 = .ok (.iconst (-1), 1) := by decide +kernel
theorem dX4_init_19 : decode cX4_init 19 = .ok (.putfield 19, 3) := by decide +kernel
theorem dX4_init_22 : decode cX4_init 22 = .ok (.return_, 1) := by decide +kernel
theorem dX4_putRow_0 : decode cX4_putRow 0 = .ok (.iload_n 1, 1) := by decide +kernel
theorem dX4_putRow_1 : decode cX4_putRow 1 = .ok (.ifCond .lt 22, 3) := by decide +kernel
theorem dX4_putRow_4 : decode cX4_putRow 4 = .ok (.iload_n 1, 1) := by decide +kernel
theorem dX4_putRow_5 : decode cX4_putRow 5 = .ok (.aload_n 0, 1) := by decide +kernel
theorem dX4_putRow_6 : decode cX4_putRow 6 = .ok (.getfield 11, 3) := by decide +kernel
theorem dX4_putRow_9 : decode cX4_putRow 9 = .ok (.arraylength, 1) := by decide +kernel
theorem dX4_putRow_10 : decode cX4_putRow 10 = .ok (.if_icmp .ge 13, 3) := by decide +kernel
theorem dX4_putRow_13 : decode cX4_putRow 13 = .ok (.iload_n 2, 1) := by decide +kernel
theorem dX4_putRow_14 : decode cX4_putRow 14 = .ok (.iconst 0, 1) := by decide +kernel
theorem dX4_putRow_15 : decode cX4_putRow 15 = .ok (.ldc 23, 2) := by decide +kernel
theorem dX4_putRow_17 : decode cX4_putRow 17 = .ok (.invokestatic 24, 3) := by decide +kernel
theorem dX4_putRow_20 : decode cX4_putRow 20 = .ok (.ifCond .ne 5, 3) := by decide +kernel
theorem dX4_putRow_23 : decode cX4_putRow 23 = .ok (.iconst 0, 1) := by decide +kernel
theorem dX4_putRow_24 : decode cX4_putRow 24 = .ok (.ireturn, 1) := by decide +kernel
theorem dX4_putRow_25 : decode cX4_putRow 25 = .ok (.aload_n 0, 1) := by decide +kernel
theorem dX4_putRow_26 : decode cX4_putRow 26 = .ok (.getfield 11, 3) := by decide +kernel
theorem dX4_putRow_29 : decode cX4_putRow 29 = .ok (.iload_n 1, 1) := by decide +kernel
theorem dX4_putRow_30 : decode cX4_putRow 30 = .ok (.iload_n 2, 1) := by decide +kernel
theorem dX4_putRow_31 : decode cX4_putRow 31 = .ok (.iastore, 1) := by decide +kernel
theorem dX4_putRow_32 : decode cX4_putRow 32 = .ok (.aload_n 0, 1) := by decide +kernel
theorem dX4_putRow_33 : decode cX4_putRow 33 = .ok (.iconst 1, 1) := by decide +kernel
theorem dX4_putRow_34 : decode cX4_putRow 34 = .ok (.putfield 15, 3) := by decide +kernel
theorem dX4_putRow_37 : decode cX4_putRow 37 = .ok (.iconst 1, 1) := by decide +kernel
theorem dX4_putRow_38 : decode cX4_putRow 38 = .ok (.ireturn, 1) := by decide +kernel
theorem dX4_findCentre_0 : decode cX4_findCentre 0 = .ok (.aload_n 0, 1) := by decide +kernel
theorem dX4_findCentre_1 : decode cX4_findCentre 1 = .ok (.getfield 15, 3) := by decide +kernel
theorem dX4_findCentre_4 : decode cX4_findCentre 4 = .ok (.ifCond .ne 4, 3) := by decide +kernel
theorem dX4_findCentre_7 : decode cX4_findCentre 7 = .ok (.return_, 1) := by decide +kernel
theorem dX4_findCentre_8 : decode cX4_findCentre 8 = .ok (.aload_n 0, 1) := by decide +kernel
theorem dX4_findCentre_9 : decode cX4_findCentre 9 = .ok (.iconst 0, 1) := by decide +kernel
theorem dX4_findCentre_10 : decode cX4_findCentre 10 = .ok (.putfield 15, 3) := by decide +kernel
theorem dX4_findCentre_13 : decode cX4_findCentre 13 = .ok (.aload_n 0, 1) := by decide +kernel
theorem dX4_findCentre_14 : decode cX4_findCentre 14 = .ok (.iconst (-1), 1) := by decide +kernel
theorem dX4_findCentre_15 : decode cX4_findCentre 15 = .ok (.putfield 19, 3) := by decide +kernel
theorem dX4_findCentre_18 : decode cX4_findCentre 18 = .ok (.iconst 0, 1) := by decide +kernel
theorem dX4_findCentre_19 : decode cX4_findCentre 19 = .ok (.istore_n 1, 1) := by decide +kernel
theorem dX4_findCentre_20 : decode cX4_findCentre 20 = .ok (.iload_n 1, 1) := by decide +kernel
theorem dX4_findCentre_21 : decode cX4_findCentre 21 = .ok (.bipush 24, 2) := by decide +kernel
theorem dX4_findCentre_23 : decode cX4_findCentre 23 = .ok (.if_icmp .ge 29, 3) := by decide +kernel
theorem dX4_findCentre_26 : decode cX4_findCentre 26 = .ok (.iconst 0, 1) := by decide +kernel
theorem dX4_findCentre_27 : decode cX4_findCentre 27 = .ok (.istore_n 2, 1) := by decide +kernel
theorem dX4_findCentre_28 : decode cX4_findCentre 28 = .ok (.iload_n 2, 1) := by decide +kernel
theorem dX4_findCentre_29 : decode cX4_findCentre 29 = .ok (.bipush 24, 2) := by decide +kernel
theorem dX4_findCentre_31 : decode cX4_findCentre 31 = .ok (.if_icmp .ge 15, 3) := by decide +kernel
theorem dX4_findCentre_34 : decode cX4_findCentre 34 = .ok (.aload_n 0, 1) := by decide +kernel
theorem dX4_findCentre_35 : decode cX4_findCentre 35 = .ok (.iload_n 1, 1) := by decide +kernel
theorem dX4_findCentre_36 : decode cX4_findCentre 36 = .ok (.iload_n 2, 1) := by decide +kernel
theorem dX4_findCentre_37 : decode cX4_findCentre 37 = .ok (.invokevirtual 28, 3) := by decide +kernel
theorem dX4_findCentre_40 : decode cX4_findCentre 40 = .ok (.iinc 2 1, 3) := by decide +kernel
theorem dX4_findCentre_43 : decode cX4_findCentre 43 = .ok (.goto (-15), 3) := by decide +kernel
theorem dX4_findCentre_46 : decode cX4_findCentre 46 = .ok (.iinc 1 1, 3) := by decide +kernel
theorem dX4_findCentre_49 : decode cX4_findCentre 49 = .ok (.goto (-29), 3) := by decide +kernel
theorem dX4_findCentre_52 : decode cX4_findCentre 52 = .ok (.return_, 1) := by decide +kernel
theorem dX4_growAt_0 : decode cX4_growAt 0 = .ok (.aload_n 0, 1) := by decide +kernel
theorem dX4_growAt_1 : decode cX4_growAt 1 = .ok (.getfield 19, 3) := by decide +kernel
theorem dX4_growAt_4 : decode cX4_growAt 4 = .ok (.iconst 1, 1) := by decide +kernel
theorem dX4_growAt_5 : decode cX4_growAt 5 = .ok (.iadd, 1) := by decide +kernel
theorem dX4_growAt_6 : decode cX4_growAt 6 = .ok (.istore_n 3, 1) := by decide +kernel
theorem dX4_growAt_7 : decode cX4_growAt 7 = .ok (.iload_n 3, 1) := by decide +kernel
theorem dX4_growAt_8 : decode cX4_growAt 8 = .ok (.bipush 11, 2) := by decide +kernel
theorem dX4_growAt_10 : decode cX4_growAt 10 = .ok (.if_icmp .gt 34, 3) := by decide +kernel
theorem dX4_growAt_13 : decode cX4_growAt 13 = .ok (.aload_n 0, 1) := by decide +kernel
theorem dX4_growAt_14 : decode cX4_growAt 14 = .ok (.iload_n 1, 1) := by decide +kernel
theorem dX4_growAt_15 : decode cX4_growAt 15 = .ok (.iload_n 2, 1) := by decide +kernel
theorem dX4_growAt_16 : decode cX4_growAt 16 = .ok (.iload_n 3, 1) := by decide +kernel
theorem dX4_growAt_17 : decode cX4_growAt 17 = .ok (.invokevirtual 32, 3) := by decide +kernel
theorem dX4_growAt_20 : decode cX4_growAt 20 = .ok (.ifCond .eq 24, 3) := by decide +kernel
theorem dX4_growAt_23 : decode cX4_growAt 23 = .ok (.aload_n 0, 1) := by decide +kernel
theorem dX4_growAt_24 : decode cX4_growAt 24 = .ok (.iload_n 3, 1) := by decide +kernel
theorem dX4_growAt_25 : decode cX4_growAt 25 = .ok (.putfield 19, 3) := by decide +kernel
theorem dX4_growAt_28 : decode cX4_growAt 28 = .ok (.aload_n 0, 1) := by decide +kernel
theorem dX4_growAt_29 : decode cX4_growAt 29 = .ok (.iload_n 1, 1) := by decide +kernel
theorem dX4_growAt_30 : decode cX4_growAt 30 = .ok (.putfield 35, 3) := by decide +kernel
theorem dX4_growAt_33 : decode cX4_growAt 33 = .ok (.aload_n 0, 1) := by decide +kernel
theorem dX4_growAt_34 : decode cX4_growAt 34 = .ok (.iload_n 2, 1) := by decide +kernel
theorem dX4_growAt_35 : decode cX4_growAt 35 = .ok (.putfield 38, 3) := by decide +kernel
theorem dX4_growAt_38 : decode cX4_growAt 38 = .ok (.iinc 3 1, 3) := by decide +kernel
theorem dX4_growAt_41 : decode cX4_growAt 41 = .ok (.goto (-34), 3) := by decide +kernel
theorem dX4_growAt_44 : decode cX4_growAt 44 = .ok (.return_, 1) := by decide +kernel
theorem dX4_discFits_0 : decode cX4_discFits 0 = .ok (.iload_n 1, 1) := by decide +kernel
theorem dX4_discFits_1 : decode cX4_discFits 1 = .ok (.iload_n 3, 1) := by decide +kernel
theorem dX4_discFits_2 : decode cX4_discFits 2 = .ok (.isub, 1) := by decide +kernel
theorem dX4_discFits_3 : decode cX4_discFits 3 = .ok (.ifCond .lt 25, 3) := by decide +kernel
theorem dX4_discFits_6 : decode cX4_discFits 6 = .ok (.iload_n 1, 1) := by decide +kernel
theorem dX4_discFits_7 : decode cX4_discFits 7 = .ok (.iload_n 3, 1) := by decide +kernel
theorem dX4_discFits_8 : decode cX4_discFits 8 = .ok (.iadd, 1) := by decide +kernel
theorem dX4_discFits_9 : decode cX4_discFits 9 = .ok (.bipush 24, 2) := by decide +kernel
theorem dX4_discFits_11 : decode cX4_discFits 11 = .ok (.if_icmp .ge 17, 3) := by decide +kernel
theorem dX4_discFits_14 : decode cX4_discFits 14 = .ok (.iload_n 2, 1) := by decide +kernel
theorem dX4_discFits_15 : decode cX4_discFits 15 = .ok (.iload_n 3, 1) := by decide +kernel
theorem dX4_discFits_16 : decode cX4_discFits 16 = .ok (.isub, 1) := by decide +kernel
theorem dX4_discFits_17 : decode cX4_discFits 17 = .ok (.ifCond .lt 11, 3) := by decide +kernel
theorem dX4_discFits_20 : decode cX4_discFits 20 = .ok (.iload_n 2, 1) := by decide +kernel
theorem dX4_discFits_21 : decode cX4_discFits 21 = .ok (.iload_n 3, 1) := by decide +kernel
theorem dX4_discFits_22 : decode cX4_discFits 22 = .ok (.iadd, 1) := by decide +kernel
theorem dX4_discFits_23 : decode cX4_discFits 23 = .ok (.bipush 24, 2) := by decide +kernel
theorem dX4_discFits_25 : decode cX4_discFits 25 = .ok (.if_icmp .lt 5, 3) := by decide +kernel
theorem dX4_discFits_28 : decode cX4_discFits 28 = .ok (.iconst 0, 1) := by decide +kernel
theorem dX4_discFits_29 : decode cX4_discFits 29 = .ok (.ireturn, 1) := by decide +kernel
theorem dX4_discFits_30 : decode cX4_discFits 30 = .ok (.iload_n 3, 1) := by decide +kernel
theorem dX4_discFits_31 : decode cX4_discFits 31 = .ok (.istore 4, 2) := by decide +kernel
theorem dX4_discFits_33 : decode cX4_discFits 33 = .ok (.iconst 0, 1) := by decide +kernel
theorem dX4_discFits_34 : decode cX4_discFits 34 = .ok (.istore 5, 2) := by decide +kernel
theorem dX4_discFits_36 : decode cX4_discFits 36 = .ok (.iload 5, 2) := by decide +kernel
theorem dX4_discFits_38 : decode cX4_discFits 38 = .ok (.iload_n 3, 1) := by decide +kernel
theorem dX4_discFits_39 : decode cX4_discFits 39 = .ok (.if_icmp .gt 82, 3) := by decide +kernel
theorem dX4_discFits_42 : decode cX4_discFits 42 = .ok (.iload 4, 2) := by decide +kernel
theorem dX4_discFits_44 : decode cX4_discFits 44 = .ok (.ifCond .le 26, 3) := by decide +kernel
theorem dX4_discFits_47 : decode cX4_discFits 47 = .ok (.iload 4, 2) := by decide +kernel
theorem dX4_discFits_49 : decode cX4_discFits 49 = .ok (.iload 4, 2) := by decide +kernel
theorem dX4_discFits_51 : decode cX4_discFits 51 = .ok (.imul, 1) := by decide +kernel
theorem dX4_discFits_52 : decode cX4_discFits 52 = .ok (.iload 5, 2) := by decide +kernel
theorem dX4_discFits_54 : decode cX4_discFits 54 = .ok (.iload 5, 2) := by decide +kernel
theorem dX4_discFits_56 : decode cX4_discFits 56 = .ok (.imul, 1) := by decide +kernel
theorem dX4_discFits_57 : decode cX4_discFits 57 = .ok (.iadd, 1) := by decide +kernel
theorem dX4_discFits_58 : decode cX4_discFits 58 = .ok (.iload_n 3, 1) := by decide +kernel
theorem dX4_discFits_59 : decode cX4_discFits 59 = .ok (.iload_n 3, 1) := by decide +kernel
theorem dX4_discFits_60 : decode cX4_discFits 60 = .ok (.imul, 1) := by decide +kernel
theorem dX4_discFits_61 : decode cX4_discFits 61 = .ok (.if_icmp .le 9, 3) := by decide +kernel
theorem dX4_discFits_64 : decode cX4_discFits 64 = .ok (.iinc 4 (-1), 3) := by decide +kernel
theorem dX4_discFits_67 : decode cX4_discFits 67 = .ok (.goto (-25), 3) := by decide +kernel
theorem dX4_discFits_70 : decode cX4_discFits 70 = .ok (.iconst 1, 1) := by decide +kernel
theorem dX4_discFits_71 : decode cX4_discFits 71 = .ok (.iconst 2, 1) := by decide +kernel
theorem dX4_discFits_72 : decode cX4_discFits 72 = .ok (.iload 4, 2) := by decide +kernel
theorem dX4_discFits_74 : decode cX4_discFits 74 = .ok (.imul, 1) := by decide +kernel
theorem dX4_discFits_75 : decode cX4_discFits 75 = .ok (.iconst 1, 1) := by decide +kernel
theorem dX4_discFits_76 : decode cX4_discFits 76 = .ok (.iadd, 1) := by decide +kernel
theorem dX4_discFits_77 : decode cX4_discFits 77 = .ok (.ishl, 1) := by decide +kernel
theorem dX4_discFits_78 : decode cX4_discFits 78 = .ok (.iconst 1, 1) := by decide +kernel
theorem dX4_discFits_79 : decode cX4_discFits 79 = .ok (.isub, 1) := by decide +kernel
theorem dX4_discFits_80 : decode cX4_discFits 80 = .ok (.iload_n 2, 1) := by decide +kernel
theorem dX4_discFits_81 : decode cX4_discFits 81 = .ok (.iload 4, 2) := by decide +kernel
theorem dX4_discFits_83 : decode cX4_discFits 83 = .ok (.isub, 1) := by decide +kernel
theorem dX4_discFits_84 : decode cX4_discFits 84 = .ok (.ishl, 1) := by decide +kernel
theorem dX4_discFits_85 : decode cX4_discFits 85 = .ok (.istore 6, 2) := by decide +kernel
theorem dX4_discFits_87 : decode cX4_discFits 87 = .ok (.aload_n 0, 1) := by decide +kernel
theorem dX4_discFits_88 : decode cX4_discFits 88 = .ok (.iload_n 1, 1) := by decide +kernel
theorem dX4_discFits_89 : decode cX4_discFits 89 = .ok (.iload 5, 2) := by decide +kernel
theorem dX4_discFits_91 : decode cX4_discFits 91 = .ok (.isub, 1) := by decide +kernel
theorem dX4_discFits_92 : decode cX4_discFits 92 = .ok (.iload 6, 2) := by decide +kernel
theorem dX4_discFits_94 : decode cX4_discFits 94 = .ok (.invokevirtual 41, 3) := by decide +kernel
theorem dX4_discFits_97 : decode cX4_discFits 97 = .ok (.ifCond .eq 16, 3) := by decide +kernel
theorem dX4_discFits_100 : decode cX4_discFits 100 = .ok (.aload_n 0, 1) := by decide +kernel
theorem dX4_discFits_101 : decode cX4_discFits 101 = .ok (.iload_n 1, 1) := by decide +kernel
theorem dX4_discFits_102 : decode cX4_discFits 102 = .ok (.iload 5, 2) := by decide +kernel
theorem dX4_discFits_104 : decode cX4_discFits 104 = .ok (.iadd, 1) := by decide +kernel
theorem dX4_discFits_105 : decode cX4_discFits 105 = .ok (.iload 6, 2) := by decide +kernel
theorem dX4_discFits_107 : decode cX4_discFits 107 = .ok (.invokevirtual 41, 3) := by decide +kernel
theorem dX4_discFits_110 : decode cX4_discFits 110 = .ok (.ifCond .ne 5, 3) := by decide +kernel
theorem dX4_discFits_113 : decode cX4_discFits 113 = .ok (.iconst 0, 1) := by decide +kernel
theorem dX4_discFits_114 : decode cX4_discFits 114 = .ok (.ireturn, 1) := by decide +kernel
theorem dX4_discFits_115 : decode cX4_discFits 115 = .ok (.iinc 5 1, 3) := by decide +kernel
theorem dX4_discFits_118 : decode cX4_discFits 118 = .ok (.goto (-82), 3) := by decide +kernel
theorem dX4_discFits_121 : decode cX4_discFits 121 = .ok (.iconst 1, 1) := by decide +kernel
theorem dX4_discFits_122 : decode cX4_discFits 122 = .ok (.ireturn, 1) := by decide +kernel
theorem dX4_hasCells_0 : decode cX4_hasCells 0 = .ok (.iload_n 1, 1) := by decide +kernel
theorem dX4_hasCells_1 : decode cX4_hasCells 1 = .ok (.ifCond .lt 28, 3) := by decide +kernel
theorem dX4_hasCells_4 : decode cX4_hasCells 4 = .ok (.iload_n 1, 1) := by decide +kernel
theorem dX4_hasCells_5 : decode cX4_hasCells 5 = .ok (.aload_n 0, 1) := by decide +kernel
theorem dX4_hasCells_6 : decode cX4_hasCells 6 = .ok (.getfield 11, 3) := by decide +kernel
theorem dX4_hasCells_9 : decode cX4_hasCells 9 = .ok (.arraylength, 1) := by decide +kernel
theorem dX4_hasCells_10 : decode cX4_hasCells 10 = .ok (.if_icmp .ge 19, 3) := by decide +kernel
theorem dX4_hasCells_13 : decode cX4_hasCells 13 = .ok (.aload_n 0, 1) := by decide +kernel
theorem dX4_hasCells_14 : decode cX4_hasCells 14 = .ok (.getfield 11, 3) := by decide +kernel
theorem dX4_hasCells_17 : decode cX4_hasCells 17 = .ok (.iload_n 1, 1) := by decide +kernel
theorem dX4_hasCells_18 : decode cX4_hasCells 18 = .ok (.iaload, 1) := by decide +kernel
theorem dX4_hasCells_19 : decode cX4_hasCells 19 = .ok (.iload_n 2, 1) := by decide +kernel
theorem dX4_hasCells_20 : decode cX4_hasCells 20 = .ok (.iand, 1) := by decide +kernel
theorem dX4_hasCells_21 : decode cX4_hasCells 21 = .ok (.iload_n 2, 1) := by decide +kernel
theorem dX4_hasCells_22 : decode cX4_hasCells 22 = .ok (.if_icmp .ne 7, 3) := by decide +kernel
theorem dX4_hasCells_25 : decode cX4_hasCells 25 = .ok (.iconst 1, 1) := by decide +kernel
theorem dX4_hasCells_26 : decode cX4_hasCells 26 = .ok (.goto 4, 3) := by decide +kernel
theorem dX4_hasCells_29 : decode cX4_hasCells 29 = .ok (.iconst 0, 1) := by decide +kernel
theorem dX4_hasCells_30 : decode cX4_hasCells 30 = .ok (.ireturn, 1) := by decide +kernel
theorem dX4_peeled_0 : decode cX4_peeled 0 = .ok (.bipush 10, 2) := by decide +kernel
theorem dX4_peeled_2 : decode cX4_peeled 2 = .ok (.aload_n 0, 1) := by decide +kernel
theorem dX4_peeled_3 : decode cX4_peeled 3 = .ok (.getfield 19, 3) := by decide +kernel
theorem dX4_peeled_6 : decode cX4_peeled 6 = .ok (.imul, 1) := by decide +kernel
theorem dX4_peeled_7 : decode cX4_peeled 7 = .ok (.iconst 5, 1) := by decide +kernel
theorem dX4_peeled_8 : decode cX4_peeled 8 = .ok (.iadd, 1) := by decide +kernel
theorem dX4_peeled_9 : decode cX4_peeled 9 = .ok (.istore_n 3, 1) := by decide +kernel
theorem dX4_peeled_10 : decode cX4_peeled 10 = .ok (.bipush 7, 2) := by decide +kernel
theorem dX4_peeled_12 : decode cX4_peeled 12 = .ok (.iload_n 2, 1) := by decide +kernel
theorem dX4_peeled_13 : decode cX4_peeled 13 = .ok (.imul, 1) := by decide +kernel
theorem dX4_peeled_14 : decode cX4_peeled 14 = .ok (.istore 4, 2) := by decide +kernel
theorem dX4_peeled_16 : decode cX4_peeled 16 = .ok (.iload_n 1, 1) := by decide +kernel
theorem dX4_peeled_17 : decode cX4_peeled 17 = .ok (.iload_n 3, 1) := by decide +kernel
theorem dX4_peeled_18 : decode cX4_peeled 18 = .ok (.if_icmp .ge 8, 3) := by decide +kernel
theorem dX4_peeled_21 : decode cX4_peeled 21 = .ok (.iload 4, 2) := by decide +kernel
theorem dX4_peeled_23 : decode cX4_peeled 23 = .ok (.ifCond .gt 5, 3) := by decide +kernel
theorem dX4_peeled_26 : decode cX4_peeled 26 = .ok (.iconst 0, 1) := by decide +kernel
theorem dX4_peeled_27 : decode cX4_peeled 27 = .ok (.ireturn, 1) := by decide +kernel
theorem dX4_peeled_28 : decode cX4_peeled 28 = .ok (.iload_n 3, 1) := by decide +kernel
theorem dX4_peeled_29 : decode cX4_peeled 29 = .ok (.iload_n 3, 1) := by decide +kernel
theorem dX4_peeled_30 : decode cX4_peeled 30 = .ok (.imul, 1) := by decide +kernel
theorem dX4_peeled_31 : decode cX4_peeled 31 = .ok (.iload_n 1, 1) := by decide +kernel
theorem dX4_peeled_32 : decode cX4_peeled 32 = .ok (.iload_n 1, 1) := by decide +kernel
theorem dX4_peeled_33 : decode cX4_peeled 33 = .ok (.imul, 1) := by decide +kernel
theorem dX4_peeled_34 : decode cX4_peeled 34 = .ok (.isub, 1) := by decide +kernel
theorem dX4_peeled_35 : decode cX4_peeled 35 = .ok (.bipush 22, 2) := by decide +kernel
theorem dX4_peeled_37 : decode cX4_peeled 37 = .ok (.imul, 1) := by decide +kernel
theorem dX4_peeled_38 : decode cX4_peeled 38 = .ok (.iload 4, 2) := by decide +kernel
theorem dX4_peeled_40 : decode cX4_peeled 40 = .ok (.idiv, 1) := by decide +kernel
theorem dX4_peeled_41 : decode cX4_peeled 41 = .ok (.ireturn, 1) := by decide +kernel
theorem dX5_init_0 : decode cX5_init 0 = .ok (.aload_n 0, 1) := by decide +kernel
theorem dX5_init_1 : decode cX5_init 1 = .ok (.invokespecial 3, 3) := by decide +kernel
theorem dX5_init_4 : decode cX5_init 4 = .ok (.aload_n 0, 1) := by decide +kernel
theorem dX5_init_5 : decode cX5_init 5 = .ok (.aload_n 1, 1) := by decide +kernel
theorem dX5_init_6 : decode cX5_init 6 = .ok (.putfield 9, 3) := by decide +kernel
theorem dX5_init_9 : decode cX5_init 9 = .ok (.aload_n 0, 1) := by decide +kernel
theorem dX5_init_10 : decode cX5_init 10 = .ok (.bipush 101, 2) := by decide +kernel
theorem dX5_init_12 : decode cX5_init 12 = .ok (.newarray .int, 2) := by decide +kernel
theorem dX5_init_14 : decode cX5_init 14 = .ok (.putfield 17, 3) := by decide +kernel
theorem dX5_init_17 : decode cX5_init 17 = .ok (.return_, 1) := by decide +kernel
theorem dX5_beginAt_0 : decode cX5_beginAt 0 = .ok (.aload_n 0, 1) := by decide +kernel
theorem dX5_beginAt_1 : decode cX5_beginAt 1 = .ok (.iload_n 1, 1) := by decide +kernel
theorem dX5_beginAt_2 : decode cX5_beginAt 2 = .ok (.putfield 21, 3) := by decide +kernel
theorem dX5_beginAt_5 : decode cX5_beginAt 5 = .ok (.aload_n 0, 1) := by decide +kernel
theorem dX5_beginAt_6 : decode cX5_beginAt 6 = .ok (.getfield 9, 3) := by decide +kernel
theorem dX5_beginAt_9 : decode cX5_beginAt 9 = .ok (.iload_n 1, 1) := by decide +kernel
theorem dX5_beginAt_10 : decode cX5_beginAt 10 = .ok (.aload_n 0, 1) := by decide +kernel
theorem dX5_beginAt_11 : decode cX5_beginAt 11 = .ok (.getfield 17, 3) := by decide +kernel
theorem dX5_beginAt_14 : decode cX5_beginAt 14 = .ok (.invokevirtual 25, 3) := by decide +kernel
theorem dX5_beginAt_17 : decode cX5_beginAt 17 = .ok (.return_, 1) := by decide +kernel
theorem dX5_endBefore_0 : decode cX5_endBefore 0 = .ok (.aload_n 0, 1) := by decide +kernel
theorem dX5_endBefore_1 : decode cX5_endBefore 1 = .ok (.aload_n 0, 1) := by decide +kernel
theorem dX5_endBefore_2 : decode cX5_endBefore 2 = .ok (.getfield 9, 3) := by decide +kernel
theorem dX5_endBefore_5 : decode cX5_endBefore 5 = .ok (.getfield 31, 3) := by decide +kernel
theorem dX5_endBefore_8 : decode cX5_endBefore 8 = .ok (.aload_n 0, 1) := by decide +kernel
theorem dX5_endBefore_9 : decode cX5_endBefore 9 = .ok (.getfield 21, 3) := by decide +kernel
theorem dX5_endBefore_12 : decode cX5_endBefore 12 = .ok (.iload_n 1, 1) := by decide +kernel
theorem dX5_endBefore_13 : decode cX5_endBefore 13 = .ok (.invokestatic 34, 3) := by decide +kernel
theorem dX5_endBefore_16 : decode cX5_endBefore 16 = .ok (.putfield 38, 3) := by decide +kernel
theorem dX5_endBefore_19 : decode cX5_endBefore 19 = .ok (.aload_n 0, 1) := by decide +kernel
theorem dX5_endBefore_20 : decode cX5_endBefore 20 = .ok (.aload_n 0, 1) := by decide +kernel
theorem dX5_endBefore_21 : decode cX5_endBefore 21 = .ok (.getfield 9, 3) := by decide +kernel
theorem dX5_endBefore_24 : decode cX5_endBefore 24 = .ok (.getfield 41, 3) := by decide +kernel
theorem dX5_endBefore_27 : decode cX5_endBefore 27 = .ok (.aload_n 0, 1) := by decide +kernel
theorem dX5_endBefore_28 : decode cX5_endBefore 28 = .ok (.getfield 21, 3) := by decide +kernel
theorem dX5_endBefore_31 : decode cX5_endBefore 31 = .ok (.iload_n 1, 1) := by decide +kernel
theorem dX5_endBefore_32 : decode cX5_endBefore 32 = .ok (.invokestatic 34, 3) := by decide +kernel
theorem dX5_endBefore_35 : decode cX5_endBefore 35 = .ok (.putfield 44, 3) := by decide +kernel
theorem dX5_endBefore_38 : decode cX5_endBefore 38 = .ok (.aload_n 0, 1) := by decide +kernel
theorem dX5_endBefore_39 : decode cX5_endBefore 39 = .ok (.aload_n 0, 1) := by decide +kernel
theorem dX5_endBefore_40 : decode cX5_endBefore 40 = .ok (.getfield 9, 3) := by decide +kernel
theorem dX5_endBefore_43 : decode cX5_endBefore 43 = .ok (.getfield 47, 3) := by decide +kernel
theorem dX5_endBefore_46 : decode cX5_endBefore 46 = .ok (.aload_n 0, 1) := by decide +kernel
theorem dX5_endBefore_47 : decode cX5_endBefore 47 = .ok (.getfield 21, 3) := by decide +kernel
theorem dX5_endBefore_50 : decode cX5_endBefore 50 = .ok (.iload_n 1, 1) := by decide +kernel
theorem dX5_endBefore_51 : decode cX5_endBefore 51 = .ok (.invokestatic 34, 3) := by decide +kernel
theorem dX5_endBefore_54 : decode cX5_endBefore 54 = .ok (.putfield 50, 3) := by decide +kernel
theorem dX5_endBefore_57 : decode cX5_endBefore 57 = .ok (.aload_n 0, 1) := by decide +kernel
theorem dX5_endBefore_58 : decode cX5_endBefore 58 = .ok (.aload_n 0, 1) := by decide +kernel
theorem dX5_endBefore_59 : decode cX5_endBefore 59 = .ok (.getfield 9, 3) := by decide +kernel
theorem dX5_endBefore_62 : decode cX5_endBefore 62 = .ok (.getfield 53, 3) := by decide +kernel
theorem dX5_endBefore_65 : decode cX5_endBefore 65 = .ok (.aload_n 0, 1) := by decide +kernel
theorem dX5_endBefore_66 : decode cX5_endBefore 66 = .ok (.getfield 21, 3) := by decide +kernel
theorem dX5_endBefore_69 : decode cX5_endBefore 69 = .ok (.iload_n 1, 1) := by decide +kernel
theorem dX5_endBefore_70 : decode cX5_endBefore 70 = .ok (.invokestatic 34, 3) := by decide +kernel
theorem dX5_endBefore_73 : decode cX5_endBefore 73 = .ok (.putfield 56, 3) := by decide +kernel
theorem dX5_endBefore_76 : decode cX5_endBefore 76 = .ok (.iload_n 1, 1) := by decide +kernel
theorem dX5_endBefore_77 : decode cX5_endBefore 77 = .ok (.aload_n 0, 1) := by decide +kernel
theorem dX5_endBefore_78 : decode cX5_endBefore 78 = .ok (.getfield 21, 3) := by decide +kernel
theorem dX5_endBefore_81 : decode cX5_endBefore 81 = .ok (.isub, 1) := by decide +kernel
theorem dX5_endBefore_82 : decode cX5_endBefore 82 = .ok (.istore_n 2, 1) := by decide +kernel
theorem dX5_endBefore_83 : decode cX5_endBefore 83 = .ok (.aload_n 0, 1) := by decide +kernel
theorem dX5_endBefore_84 : decode cX5_endBefore 84 = .ok (.iload_n 2, 1) := by decide +kernel
theorem dX5_endBefore_85 : decode cX5_endBefore 85 = .ok (.ifCond .lt 21, 3) := by decide +kernel
theorem dX5_endBefore_88 : decode cX5_endBefore 88 = .ok (.iload_n 2, 1) := by decide +kernel
theorem dX5_endBefore_89 : decode cX5_endBefore 89 = .ok (.aload_n 0, 1) := by decide +kernel
theorem dX5_endBefore_90 : decode cX5_endBefore 90 = .ok (.getfield 17, 3) := by decide +kernel
theorem dX5_endBefore_93 : decode cX5_endBefore 93 = .ok (.arraylength, 1) := by decide +kernel
theorem dX5_endBefore_94 : decode cX5_endBefore 94 = .ok (.if_icmp .ge 12, 3) := by decide +kernel
theorem dX5_endBefore_97 : decode cX5_endBefore 97 = .ok (.aload_n 0, 1) := by decide +kernel
theorem dX5_endBefore_98 : decode cX5_endBefore 98 = .ok (.getfield 17, 3) := by decide +kernel
theorem dX5_endBefore_101 : decode cX5_endBefore 101 = .ok (.iload_n 2, 1) := by decide +kernel
theorem dX5_endBefore_102 : decode cX5_endBefore 102 = .ok (.iaload, 1) := by decide +kernel
theorem dX5_endBefore_103 : decode cX5_endBefore 103 = .ok (.goto 4, 3) := by decide +kernel
theorem dX5_endBefore_106 : decode cX5_endBefore 106 = .ok (.iconst 0, 1) := by decide +kernel
theorem dX5_endBefore_107 : decode cX5_endBefore 107 = .ok (.putfield 59, 3) := by decide +kernel
theorem dX5_endBefore_110 : decode cX5_endBefore 110 = .ok (.return_, 1) := by decide +kernel
theorem dX5_countOf_0 : decode cX5_countOf 0 = .ok (.iload_n 1, 1) := by decide +kernel
theorem dX5_countOf_1 : decode cX5_countOf 1 = .ok (.tableswitch 70 (-5) (-1) #[65, 55, 45, 40, 35], 35) := by decide +kernel
theorem dX5_countOf_36 : decode cX5_countOf 36 = .ok (.aload_n 0, 1) := by decide +kernel
theorem dX5_countOf_37 : decode cX5_countOf 37 = .ok (.getfield 38, 3) := by decide +kernel
theorem dX5_countOf_40 : decode cX5_countOf 40 = .ok (.ireturn, 1) := by decide +kernel
theorem dX5_countOf_41 : decode cX5_countOf 41 = .ok (.aload_n 0, 1) := by decide +kernel
theorem dX5_countOf_42 : decode cX5_countOf 42 = .ok (.getfield 44, 3) := by decide +kernel
theorem dX5_countOf_45 : decode cX5_countOf 45 = .ok (.ireturn, 1) := by decide +kernel
theorem dX5_countOf_46 : decode cX5_countOf 46 = .ok (.aload_n 0, 1) := by decide +kernel
theorem dX5_countOf_47 : decode cX5_countOf 47 = .ok (.getfield 50, 3) := by decide +kernel
theorem dX5_countOf_50 : decode cX5_countOf 50 = .ok (.aload_n 0, 1) := by decide +kernel
theorem dX5_countOf_51 : decode cX5_countOf 51 = .ok (.getfield 62, 3) := by decide +kernel
theorem dX5_countOf_54 : decode cX5_countOf 54 = .ok (.isub, 1) := by decide +kernel
theorem dX5_countOf_55 : decode cX5_countOf 55 = .ok (.ireturn, 1) := by decide +kernel
theorem dX5_countOf_56 : decode cX5_countOf 56 = .ok (.aload_n 0, 1) := by decide +kernel
theorem dX5_countOf_57 : decode cX5_countOf 57 = .ok (.getfield 56, 3) := by decide +kernel
theorem dX5_countOf_60 : decode cX5_countOf 60 = .ok (.aload_n 0, 1) := by decide +kernel
theorem dX5_countOf_61 : decode cX5_countOf 61 = .ok (.getfield 62, 3) := by decide +kernel
theorem dX5_countOf_64 : decode cX5_countOf 64 = .ok (.iadd, 1) := by decide +kernel
theorem dX5_countOf_65 : decode cX5_countOf 65 = .ok (.ireturn, 1) := by decide +kernel
theorem dX5_countOf_66 : decode cX5_countOf 66 = .ok (.aload_n 0, 1) := by decide +kernel
theorem dX5_countOf_67 : decode cX5_countOf 67 = .ok (.getfield 59, 3) := by decide +kernel
theorem dX5_countOf_70 : decode cX5_countOf 70 = .ok (.ireturn, 1) := by decide +kernel
theorem dX5_countOf_71 : decode cX5_countOf 71 = .ok (.iconst 0, 1) := by decide +kernel
theorem dX5_countOf_72 : decode cX5_countOf 72 = .ok (.ireturn, 1) := by decide +kernel
theorem dX6_init_0 : decode cX6_init 0 = .ok (.aload_n 0, 1) := by decide +kernel
theorem dX6_init_1 : decode cX6_init 1 = .ok (.invokespecial 5, 3) := by decide +kernel
theorem dX6_init_4 : decode cX6_init 4 = .ok (.aload_n 0, 1) := by decide +kernel
theorem dX6_init_5 : decode cX6_init 5 = .ok (.bipush 10, 2) := by decide +kernel
theorem dX6_init_7 : decode cX6_init 7 = .ok (.newarray .int, 2) := by decide +kernel
theorem dX6_init_9 : decode cX6_init 9 = .ok (.putfield 11, 3) := by decide +kernel
theorem dX6_init_12 : decode cX6_init 12 = .ok (.aload_n 0, 1) := by decide +kernel
theorem dX6_init_13 : decode cX6_init 13 = .ok (.bipush 10, 2) := by decide +kernel
theorem dX6_init_15 : decode cX6_init 15 = .ok (.newarray .int, 2) := by decide +kernel
theorem dX6_init_17 : decode cX6_init 17 = .ok (.putfield 15, 3) := by decide +kernel
theorem dX6_init_20 : decode cX6_init 20 = .ok (.aload_n 0, 1) := by decide +kernel
theorem dX6_init_21 : decode cX6_init 21 = .ok (.sipush 1024, 3) := by decide +kernel
theorem dX6_init_24 : decode cX6_init 24 = .ok (.newarray .int, 2) := by decide +kernel
theorem dX6_init_26 : decode cX6_init 26 = .ok (.putfield 18, 3) := by decide +kernel
theorem dX6_init_29 : decode cX6_init 29 = .ok (.aload_n 0, 1) := by decide +kernel
theorem dX6_init_30 : decode cX6_init 30 = .ok (.sipush 1024, 3) := by decide +kernel
theorem dX6_init_33 : decode cX6_init 33 = .ok (.newarray .int, 2) := by decide +kernel
theorem dX6_init_35 : decode cX6_init 35 = .ok (.putfield 21, 3) := by decide +kernel
theorem dX6_init_38 : decode cX6_init 38 = .ok (.aload_n 0, 1) := by decide +kernel
theorem dX6_init_39 : decode cX6_init 39 = .ok (.sipush 1024, 3) := by decide +kernel
theorem dX6_init_42 : decode cX6_init 42 = .ok (.newarray .int, 2) := by decide +kernel
theorem dX6_init_44 : decode cX6_init 44 = .ok (.putfield 24, 3) := by decide +kernel
theorem dX6_init_47 : decode cX6_init 47 = .ok (.aload_n 0, 1) := by decide +kernel
theorem dX6_init_48 : decode cX6_init 48 = .ok (.sipush 1024, 3) := by decide +kernel
theorem dX6_init_51 : decode cX6_init 51 = .ok (.newarray .int, 2) := by decide +kernel
theorem dX6_init_53 : decode cX6_init 53 = .ok (.putfield 27, 3) := by decide +kernel
theorem dX6_init_56 : decode cX6_init 56 = .ok (.aload_n 0, 1) := by decide +kernel
theorem dX6_init_57 : decode cX6_init 57 = .ok (.bipush 10, 2) := by decide +kernel
theorem dX6_init_59 : decode cX6_init 59 = .ok (.newarray .int, 2) := by decide +kernel
theorem dX6_init_61 : decode cX6_init 61 = .ok (.putfield 30, 3) := by decide +kernel
theorem dX6_init_64 : decode cX6_init 64 = .ok (.aload_n 0, 1) := by decide +kernel
theorem dX6_init_65 : decode cX6_init 65 = .ok (.bipush 10, 2) := by decide +kernel
theorem dX6_init_67 : decode cX6_init 67 = .ok (.newarray .int, 2) := by decide +kernel
theorem dX6_init_69 : decode cX6_init 69 = .ok (.putfield 33, 3) := by decide +kernel
theorem dX6_init_72 : decode cX6_init 72 = .ok (.aload_n 0, 1) := by decide +kernel
theorem dX6_init_73 : decode cX6_init 73 = .ok (.iconst 0, 1) := by decide +kernel
theorem dX6_init_74 : decode cX6_init 74 = .ok (.putfield 36, 3) := by decide +kernel
theorem dX6_init_77 : decode cX6_init 77 = .ok (.aload_n 0, 1) := by decide +kernel
theorem dX6_init_78 : decode cX6_init 78 = .ok (.iconst 1, 1) := by decide +kernel
theorem dX6_init_79 : decode cX6_init 79 = .ok (.putfield 40, 3) := by decide +kernel
theorem dX6_init_82 : decode cX6_init 82 = .ok (.aload_n 0, 1) := by decide +kernel
theorem dX6_init_83 : decode cX6_init 83 = .ok (.bipush 10, 2) := by decide +kernel
theorem dX6_init_85 : decode cX6_init 85 = .ok (.putfield 43, 3) := by decide +kernel
theorem dX6_init_88 : decode cX6_init 88 = .ok (.aload_n 0, 1) := by decide +kernel
theorem dX6_init_89 : decode cX6_init 89 = .ok (.iconst 1, 1) := by decide +kernel
theorem dX6_init_90 : decode cX6_init 90 = .ok (.putfield 46, 3) := by decide +kernel
theorem dX6_init_93 : decode cX6_init 93 = .ok (.aload_n 0, 1) := by decide +kernel
theorem dX6_init_94 : decode cX6_init 94 = .ok (.bipush 60, 2) := by decide +kernel
theorem dX6_init_96 : decode cX6_init 96 = .ok (.putfield 49, 3) := by decide +kernel
theorem dX6_init_99 : decode cX6_init 99 = .ok (.aload_n 0, 1) := by decide +kernel
theorem dX6_init_100 : decode cX6_init 100 = .ok (.iconst 0, 1) := by decide +kernel
theorem dX6_init_101 : decode cX6_init 101 = .ok (.putfield 52, 3) := by decide +kernel
theorem dX6_init_104 : decode cX6_init 104 = .ok (.aload_n 0, 1) := by decide +kernel
theorem dX6_init_105 : decode cX6_init 105 = .ok (.iconst 0, 1) := by decide +kernel
theorem dX6_init_106 : decode cX6_init 106 = .ok (.putfield 55, 3) := by decide +kernel
theorem dX6_init_109 : decode cX6_init 109 = .ok (.aload_n 0, 1) := by decide +kernel
theorem dX6_init_110 : decode cX6_init 110 = .ok (.iconst 1, 1) := by decide +kernel
theorem dX6_init_111 : decode cX6_init 111 = .ok (.putfield 58, 3) := by decide +kernel
theorem dX6_init_114 : decode cX6_init 114 = .ok (.return_, 1) := by decide +kernel
theorem dX6_set_0 : decode cX6_set 0 = .ok (.aload_n 0, 1) := by decide +kernel
theorem dX6_set_1 : decode cX6_set 1 = .ok (.iload_n 1, 1) := by decide +kernel
theorem dX6_set_2 : decode cX6_set 2 = .ok (.putfield 40, 3) := by decide +kernel
theorem dX6_set_5 : decode cX6_set 5 = .ok (.aload_n 0, 1) := by decide +kernel
theorem dX6_set_6 : decode cX6_set 6 = .ok (.iload_n 2, 1) := by decide +kernel
theorem dX6_set_7 : decode cX6_set 7 = .ok (.putfield 43, 3) := by decide +kernel
theorem dX6_set_10 : decode cX6_set 10 = .ok (.aload_n 0, 1) := by decide +kernel
theorem dX6_set_11 : decode cX6_set 11 = .ok (.iload_n 3, 1) := by decide +kernel
theorem dX6_set_12 : decode cX6_set 12 = .ok (.putfield 46, 3) := by decide +kernel
theorem dX6_set_15 : decode cX6_set 15 = .ok (.aload_n 0, 1) := by decide +kernel
theorem dX6_set_16 : decode cX6_set 16 = .ok (.iload 4, 2) := by decide +kernel
theorem dX6_set_18 : decode cX6_set 18 = .ok (.putfield 49, 3) := by decide +kernel
theorem dX6_set_21 : decode cX6_set 21 = .ok (.aload_n 0, 1) := by decide +kernel
theorem dX6_set_22 : decode cX6_set 22 = .ok (.iconst 1, 1) := by decide +kernel
theorem dX6_set_23 : decode cX6_set 23 = .ok (.putfield 58, 3) := by decide +kernel
theorem dX6_set_26 : decode cX6_set 26 = .ok (.return_, 1) := by decide +kernel
theorem dX6_addBoard_0 : decode cX6_addBoard 0 = .ok (.aload_n 0, 1) := by decide +kernel
theorem dX6_addBoard_1 : decode cX6_addBoard 1 = .ok (.getfield 36, 3) := by decide +kernel
theorem dX6_addBoard_4 : decode cX6_addBoard 4 = .ok (.ifCond .lt 12, 3) := by decide +kernel
theorem dX6_addBoard_7 : decode cX6_addBoard 7 = .ok (.aload_n 0, 1) := by decide +kernel
theorem dX6_addBoard_8 : decode cX6_addBoard 8 = .ok (.getfield 36, 3) := by decide +kernel
theorem dX6_addBoard_11 : decode cX6_addBoard 11 = .ok (.bipush 10, 2) := by decide +kernel
theorem dX6_addBoard_13 : decode cX6_addBoard 13 = .ok (.if_icmp .lt 5, 3) := by decide +kernel
theorem dX6_addBoard_16 : decode cX6_addBoard 16 = .ok (.iconst (-1), 1) := by decide +kernel
theorem dX6_addBoard_17 : decode cX6_addBoard 17 = .ok (.ireturn, 1) := by decide +kernel
theorem dX6_addBoard_18 : decode cX6_addBoard 18 = .ok (.aload_n 0, 1) := by decide +kernel
theorem dX6_addBoard_19 : decode cX6_addBoard 19 = .ok (.getfield 11, 3) := by decide +kernel
theorem dX6_addBoard_22 : decode cX6_addBoard 22 = .ok (.aload_n 0, 1) := by decide +kernel
theorem dX6_addBoard_23 : decode cX6_addBoard 23 = .ok (.getfield 36, 3) := by decide +kernel
theorem dX6_addBoard_26 : decode cX6_addBoard 26 = .ok (.iload_n 1, 1) := by decide +kernel
theorem dX6_addBoard_27 : decode cX6_addBoard 27 = .ok (.iastore, 1) := by decide +kernel
theorem dX6_addBoard_28 : decode cX6_addBoard 28 = .ok (.aload_n 0, 1) := by decide +kernel
theorem dX6_addBoard_29 : decode cX6_addBoard 29 = .ok (.getfield 15, 3) := by decide +kernel
theorem dX6_addBoard_32 : decode cX6_addBoard 32 = .ok (.aload_n 0, 1) := by decide +kernel
theorem dX6_addBoard_33 : decode cX6_addBoard 33 = .ok (.getfield 36, 3) := by decide +kernel
theorem dX6_addBoard_36 : decode cX6_addBoard 36 = .ok (.iload_n 2, 1) := by decide +kernel
theorem dX6_addBoard_37 : decode cX6_addBoard 37 = .ok (.iastore, 1) := by decide +kernel
theorem dX6_addBoard_38 : decode cX6_addBoard 38 = .ok (.aload_n 0, 1) := by decide +kernel
theorem dX6_addBoard_39 : decode cX6_addBoard 39 = .ok (.dup, 1) := by decide +kernel
theorem dX6_addBoard_40 : decode cX6_addBoard 40 = .ok (.getfield 36, 3) := by decide +kernel
theorem dX6_addBoard_43 : decode cX6_addBoard 43 = .ok (.iconst 1, 1) := by decide +kernel
theorem dX6_addBoard_44 : decode cX6_addBoard 44 = .ok (.iadd, 1) := by decide +kernel
theorem dX6_addBoard_45 : decode cX6_addBoard 45 = .ok (.putfield 36, 3) := by decide +kernel
theorem dX6_addBoard_48 : decode cX6_addBoard 48 = .ok (.aload_n 0, 1) := by decide +kernel
theorem dX6_addBoard_49 : decode cX6_addBoard 49 = .ok (.iconst 1, 1) := by decide +kernel
theorem dX6_addBoard_50 : decode cX6_addBoard 50 = .ok (.putfield 58, 3) := by decide +kernel
theorem dX6_addBoard_53 : decode cX6_addBoard 53 = .ok (.aload_n 0, 1) := by decide +kernel
theorem dX6_addBoard_54 : decode cX6_addBoard 54 = .ok (.getfield 36, 3) := by decide +kernel
theorem dX6_addBoard_57 : decode cX6_addBoard 57 = .ok (.iconst 1, 1) := by decide +kernel
theorem dX6_addBoard_58 : decode cX6_addBoard 58 = .ok (.isub, 1) := by decide +kernel
theorem dX6_addBoard_59 : decode cX6_addBoard 59 = .ok (.ireturn, 1) := by decide +kernel
theorem dX6_removeBoard_0 : decode cX6_removeBoard 0 = .ok (.aload_n 0, 1) := by decide +kernel
theorem dX6_removeBoard_1 : decode cX6_removeBoard 1 = .ok (.getfield 36, 3) := by decide +kernel
theorem dX6_removeBoard_4 : decode cX6_removeBoard 4 = .ok (.ifCond .gt 5, 3) := by decide +kernel
theorem dX6_removeBoard_7 : decode cX6_removeBoard 7 = .ok (.iconst 0, 1) := by decide +kernel
theorem dX6_removeBoard_8 : decode cX6_removeBoard 8 = .ok (.ireturn, 1) := by decide +kernel
theorem dX6_removeBoard_9 : decode cX6_removeBoard 9 = .ok (.aload_n 0, 1) := by decide +kernel
theorem dX6_removeBoard_10 : decode cX6_removeBoard 10 = .ok (.dup, 1) := by decide +kernel
theorem dX6_removeBoard_11 : decode cX6_removeBoard 11 = .ok (.getfield 36, 3) := by decide +kernel
theorem dX6_removeBoard_14 : decode cX6_removeBoard 14 = .ok (.iconst 1, 1) := by decide +kernel
theorem dX6_removeBoard_15 : decode cX6_removeBoard 15 = .ok (.isub, 1) := by decide +kernel
theorem dX6_removeBoard_16 : decode cX6_removeBoard 16 = .ok (.putfield 36, 3) := by decide +kernel
theorem dX6_removeBoard_19 : decode cX6_removeBoard 19 = .ok (.aload_n 0, 1) := by decide +kernel
theorem dX6_removeBoard_20 : decode cX6_removeBoard 20 = .ok (.iconst 1, 1) := by decide +kernel
theorem dX6_removeBoard_21 : decode cX6_removeBoard 21 = .ok (.putfield 58, 3) := by decide +kernel
theorem dX6_removeBoard_24 : decode cX6_removeBoard 24 = .ok (.iconst 1, 1) := by decide +kernel
theorem dX6_removeBoard_25 : decode cX6_removeBoard 25 = .ok (.ireturn, 1) := by decide +kernel
theorem dX6_find_0 : decode cX6_find 0 = .ok (.aload_n 0, 1) := by decide +kernel
theorem dX6_find_1 : decode cX6_find 1 = .ok (.getfield 58, 3) := by decide +kernel
theorem dX6_find_4 : decode cX6_find 4 = .ok (.ifCond .ne 4, 3) := by decide +kernel
theorem dX6_find_7 : decode cX6_find 7 = .ok (.return_, 1) := by decide +kernel
theorem dX6_find_8 : decode cX6_find 8 = .ok (.aload_n 0, 1) := by decide +kernel
theorem dX6_find_9 : decode cX6_find 9 = .ok (.iconst 0, 1) := by decide +kernel
theorem dX6_find_10 : decode cX6_find 10 = .ok (.putfield 58, 3) := by decide +kernel
theorem dX6_find_13 : decode cX6_find 13 = .ok (.iconst 1, 1) := by decide +kernel
theorem dX6_find_14 : decode cX6_find 14 = .ok (.aload_n 0, 1) := by decide +kernel
theorem dX6_find_15 : decode cX6_find 15 = .ok (.getfield 36, 3) := by decide +kernel
theorem dX6_find_18 : decode cX6_find 18 = .ok (.ishl, 1) := by decide +kernel
theorem dX6_find_19 : decode cX6_find 19 = .ok (.sipush 1024, 3) := by decide +kernel
theorem dX6_find_22 : decode cX6_find 22 = .ok (.invokestatic 62, 3) := by decide +kernel
theorem dX6_find_25 : decode cX6_find 25 = .ok (.istore_n 1, 1) := by decide +kernel
theorem dX6_find_26 : decode cX6_find 26 = .ok (.iconst 0, 1) := by decide +kernel
theorem dX6_find_27 : decode cX6_find 27 = .ok (.istore_n 2, 1) := by decide +kernel
theorem dX6_find_28 : decode cX6_find 28 = .ok (.iload_n 2, 1) := by decide +kernel
theorem dX6_find_29 : decode cX6_find 29 = .ok (.aload_n 0, 1) := by decide +kernel
theorem dX6_find_30 : decode cX6_find 30 = .ok (.getfield 36, 3) := by decide +kernel
theorem dX6_find_33 : decode cX6_find 33 = .ok (.if_icmp .ge 14, 3) := by decide +kernel
theorem dX6_find_36 : decode cX6_find 36 = .ok (.aload_n 0, 1) := by decide +kernel
theorem dX6_find_37 : decode cX6_find 37 = .ok (.iload_n 2, 1) := by decide +kernel
theorem dX6_find_38 : decode cX6_find 38 = .ok (.invokevirtual 68, 3) := by decide +kernel
theorem dX6_find_41 : decode cX6_find 41 = .ok (.iinc 2 1, 3) := by decide +kernel
theorem dX6_find_44 : decode cX6_find 44 = .ok (.goto (-16), 3) := by decide +kernel
theorem dX6_find_47 : decode cX6_find 47 = .ok (.aload_n 0, 1) := by decide +kernel
theorem dX6_find_48 : decode cX6_find 48 = .ok (.getfield 27, 3) := by decide +kernel
theorem dX6_find_51 : decode cX6_find 51 = .ok (.iconst 0, 1) := by decide +kernel
theorem dX6_find_52 : decode cX6_find 52 = .ok (.iconst 0, 1) := by decide +kernel
theorem dX6_find_53 : decode cX6_find 53 = .ok (.iastore, 1) := by decide +kernel
theorem dX6_find_54 : decode cX6_find 54 = .ok (.iconst 1, 1) := by decide +kernel
theorem dX6_find_55 : decode cX6_find 55 = .ok (.istore_n 2, 1) := by decide +kernel
theorem dX6_find_56 : decode cX6_find 56 = .ok (.iload_n 2, 1) := by decide +kernel
theorem dX6_find_57 : decode cX6_find 57 = .ok (.iload_n 1, 1) := by decide +kernel
theorem dX6_find_58 : decode cX6_find 58 = .ok (.if_icmp .ge 20, 3) := by decide +kernel
theorem dX6_find_61 : decode cX6_find 61 = .ok (.aload_n 0, 1) := by decide +kernel
theorem dX6_find_62 : decode cX6_find 62 = .ok (.getfield 27, 3) := by decide +kernel
theorem dX6_find_65 : decode cX6_find 65 = .ok (.iload_n 2, 1) := by decide +kernel
theorem dX6_find_66 : decode cX6_find 66 = .ok (.aload_n 0, 1) := by decide +kernel
theorem dX6_find_67 : decode cX6_find 67 = .ok (.iload_n 2, 1) := by decide +kernel
theorem dX6_find_68 : decode cX6_find 68 = .ok (.invokevirtual 72, 3) := by decide +kernel
theorem dX6_find_71 : decode cX6_find 71 = .ok (.iastore, 1) := by decide +kernel
theorem dX6_find_72 : decode cX6_find 72 = .ok (.iinc 2 1, 3) := by decide +kernel
theorem dX6_find_75 : decode cX6_find 75 = .ok (.goto (-19), 3) := by decide +kernel
theorem dX6_find_78 : decode cX6_find 78 = .ok (.aload_n 0, 1) := by decide +kernel
theorem dX6_find_79 : decode cX6_find 79 = .ok (.iload_n 1, 1) := by decide +kernel
theorem dX6_find_80 : decode cX6_find 80 = .ok (.invokevirtual 76, 3) := by decide +kernel
theorem dX6_find_83 : decode cX6_find 83 = .ok (.aload_n 0, 1) := by decide +kernel
theorem dX6_find_84 : decode cX6_find 84 = .ok (.invokevirtual 79, 3) := by decide +kernel
theorem dX6_find_87 : decode cX6_find 87 = .ok (.return_, 1) := by decide +kernel
theorem dX6_describeSetsUpTo_0 : decode cX6_describeSetsUpTo 0 = .ok (.iload_n 1, 1) := by decide +kernel
theorem dX6_describeSetsUpTo_1 : decode cX6_describeSetsUpTo 1 = .ok (.ifCond .lt 9, 3) := by decide +kernel
theorem dX6_describeSetsUpTo_4 : decode cX6_describeSetsUpTo 4 = .ok (.iload_n 1, 1) := by decide +kernel
theorem dX6_describeSetsUpTo_5 : decode cX6_describeSetsUpTo 5 = .ok (.bipush 10, 2) := by decide +kernel
theorem dX6_describeSetsUpTo_7 : decode cX6_describeSetsUpTo 7 = .ok (.if_icmp .lt 4, 3) := by decide +kernel
theorem dX6_describeSetsUpTo_10 : decode cX6_describeSetsUpTo 10 = .ok (.return_, 1) := by decide +kernel
theorem dX6_describeSetsUpTo_11 : decode cX6_describeSetsUpTo 11 = .ok (.iconst 1, 1) := by decide +kernel
theorem dX6_describeSetsUpTo_12 : decode cX6_describeSetsUpTo 12 = .ok (.iload_n 1, 1) := by decide +kernel
theorem dX6_describeSetsUpTo_13 : decode cX6_describeSetsUpTo 13 = .ok (.ishl, 1) := by decide +kernel
theorem dX6_describeSetsUpTo_14 : decode cX6_describeSetsUpTo 14 = .ok (.istore_n 2, 1) := by decide +kernel
theorem dX6_describeSetsUpTo_15 : decode cX6_describeSetsUpTo 15 = .ok (.aload_n 0, 1) := by decide +kernel
theorem dX6_describeSetsUpTo_16 : decode cX6_describeSetsUpTo 16 = .ok (.getfield 11, 3) := by decide +kernel
theorem dX6_describeSetsUpTo_19 : decode cX6_describeSetsUpTo 19 = .ok (.iload_n 1, 1) := by decide +kernel
theorem dX6_describeSetsUpTo_20 : decode cX6_describeSetsUpTo 20 = .ok (.iaload, 1) := by decide +kernel
theorem dX6_describeSetsUpTo_21 : decode cX6_describeSetsUpTo 21 = .ok (.istore_n 3, 1) := by decide +kernel
theorem dX6_describeSetsUpTo_22 : decode cX6_describeSetsUpTo 22 = .ok (.aload_n 0, 1) := by decide +kernel
theorem dX6_describeSetsUpTo_23 : decode cX6_describeSetsUpTo 23 = .ok (.getfield 15, 3) := by decide +kernel
theorem dX6_describeSetsUpTo_26 : decode cX6_describeSetsUpTo 26 = .ok (.iload_n 1, 1) := by decide +kernel
theorem dX6_describeSetsUpTo_27 : decode cX6_describeSetsUpTo 27 = .ok (.iaload, 1) := by decide +kernel
theorem dX6_describeSetsUpTo_28 : decode cX6_describeSetsUpTo 28 = .ok (.istore 4, 2) := by decide +kernel
theorem dX6_describeSetsUpTo_30 : decode cX6_describeSetsUpTo 30 = .ok (.iconst 0, 1) := by decide +kernel
theorem dX6_describeSetsUpTo_31 : decode cX6_describeSetsUpTo 31 = .ok (.istore 5, 2) := by decide +kernel
theorem dX6_describeSetsUpTo_33 : decode cX6_describeSetsUpTo 33 = .ok (.iload 5, 2) := by decide +kernel
theorem dX6_describeSetsUpTo_35 : decode cX6_describeSetsUpTo 35 = .ok (.iload_n 2, 1) := by decide +kernel
theorem dX6_describeSetsUpTo_36 : decode cX6_describeSetsUpTo 36 = .ok (.if_icmp .ge 174, 3) := by decide +kernel
theorem dX6_describeSetsUpTo_39 : decode cX6_describeSetsUpTo 39 = .ok (.iload 5, 2) := by decide +kernel
theorem dX6_describeSetsUpTo_41 : decode cX6_describeSetsUpTo 41 = .ok (.iload_n 2, 1) := by decide +kernel
theorem dX6_describeSetsUpTo_42 : decode cX6_describeSetsUpTo 42 = .ok (.iadd, 1) := by decide +kernel
theorem dX6_describeSetsUpTo_43 : decode cX6_describeSetsUpTo 43 = .ok (.sipush 1024, 3) := by decide +kernel
theorem dX6_describeSetsUpTo_46 : decode cX6_describeSetsUpTo 46 = .ok (.if_icmp .ge 164, 3) := by decide +kernel
theorem dX6_describeSetsUpTo_49 : decode cX6_describeSetsUpTo 49 = .ok (.iload 5, 2) := by decide +kernel
theorem dX6_describeSetsUpTo_51 : decode cX6_describeSetsUpTo 51 = .ok (.iload_n 2, 1) := by decide +kernel
theorem dX6_describeSetsUpTo_52 : decode cX6_describeSetsUpTo 52 = .ok (.iadd, 1) := by decide +kernel
theorem dX6_describeSetsUpTo_53 : decode cX6_describeSetsUpTo 53 = .ok (.istore 6, 2) := by decide +kernel
theorem dX6_describeSetsUpTo_55 : decode cX6_describeSetsUpTo 55 = .ok (.aload_n 0, 1) := by decide +kernel
theorem dX6_describeSetsUpTo_56 : decode cX6_describeSetsUpTo 56 = .ok (.getfield 21, 3) := by decide +kernel
theorem dX6_describeSetsUpTo_59 : decode cX6_describeSetsUpTo 59 = .ok (.iload 6, 2) := by decide +kernel
theorem dX6_describeSetsUpTo_61 : decode cX6_describeSetsUpTo 61 = .ok (.iload 5, 2) := by decide +kernel
theorem dX6_describeSetsUpTo_63 : decode cX6_describeSetsUpTo 63 = .ok (.ifCond .ne 8, 3) := by decide +kernel
theorem dX6_describeSetsUpTo_66 : decode cX6_describeSetsUpTo 66 = .ok (.iload 4, 2) := by decide +kernel
theorem dX6_describeSetsUpTo_68 : decode cX6_describeSetsUpTo 68 = .ok (.goto 15, 3) := by decide +kernel
theorem dX6_describeSetsUpTo_71 : decode cX6_describeSetsUpTo 71 = .ok (.aload_n 0, 1) := by decide +kernel
theorem dX6_describeSetsUpTo_72 : decode cX6_describeSetsUpTo 72 = .ok (.getfield 21, 3) := by decide +kernel
theorem dX6_describeSetsUpTo_75 : decode cX6_describeSetsUpTo 75 = .ok (.iload 5, 2) := by decide +kernel
theorem dX6_describeSetsUpTo_77 : decode cX6_describeSetsUpTo 77 = .ok (.iaload, 1) := by decide +kernel
theorem dX6_describeSetsUpTo_78 : decode cX6_describeSetsUpTo 78 = .ok (.iload 4, 2) := by decide +kernel
theorem dX6_describeSetsUpTo_80 : decode cX6_describeSetsUpTo 80 = .ok (.invokestatic 82, 3) := by decide +kernel
theorem dX6_describeSetsUpTo_83 : decode cX6_describeSetsUpTo 83 = .ok (.iastore, 1) := by decide +kernel
theorem dX6_describeSetsUpTo_84 : decode cX6_describeSetsUpTo 84 = .ok (.aload_n 0, 1) := by decide +kernel
theorem dX6_describeSetsUpTo_85 : decode cX6_describeSetsUpTo 85 = .ok (.getfield 24, 3) := by decide +kernel
theorem dX6_describeSetsUpTo_88 : decode cX6_describeSetsUpTo 88 = .ok (.iload 6, 2) := by decide +kernel
theorem dX6_describeSetsUpTo_90 : decode cX6_describeSetsUpTo 90 = .ok (.iload 5, 2) := by decide +kernel
theorem dX6_describeSetsUpTo_92 : decode cX6_describeSetsUpTo 92 = .ok (.ifCond .ne 13, 3) := by decide +kernel
theorem dX6_describeSetsUpTo_95 : decode cX6_describeSetsUpTo 95 = .ok (.iload 4, 2) := by decide +kernel
theorem dX6_describeSetsUpTo_97 : decode cX6_describeSetsUpTo 97 = .ok (.aload_n 0, 1) := by decide +kernel
theorem dX6_describeSetsUpTo_98 : decode cX6_describeSetsUpTo 98 = .ok (.getfield 49, 3) := by decide +kernel
theorem dX6_describeSetsUpTo_101 : decode cX6_describeSetsUpTo 101 = .ok (.iadd, 1) := by decide +kernel
theorem dX6_describeSetsUpTo_102 : decode cX6_describeSetsUpTo 102 = .ok (.goto 20, 3) := by decide +kernel
theorem dX6_describeSetsUpTo_105 : decode cX6_describeSetsUpTo 105 = .ok (.aload_n 0, 1) := by decide +kernel
theorem dX6_describeSetsUpTo_106 : decode cX6_describeSetsUpTo 106 = .ok (.getfield 24, 3) := by decide +kernel
theorem dX6_describeSetsUpTo_109 : decode cX6_describeSetsUpTo 109 = .ok (.iload 5, 2) := by decide +kernel
theorem dX6_describeSetsUpTo_111 : decode cX6_describeSetsUpTo 111 = .ok (.iaload, 1) := by decide +kernel
theorem dX6_describeSetsUpTo_112 : decode cX6_describeSetsUpTo 112 = .ok (.iload 4, 2) := by decide +kernel
theorem dX6_describeSetsUpTo_114 : decode cX6_describeSetsUpTo 114 = .ok (.aload_n 0, 1) := by decide +kernel
theorem dX6_describeSetsUpTo_115 : decode cX6_describeSetsUpTo 115 = .ok (.getfield 49, 3) := by decide +kernel
theorem dX6_describeSetsUpTo_118 : decode cX6_describeSetsUpTo 118 = .ok (.iadd, 1) := by decide +kernel
theorem dX6_describeSetsUpTo_119 : decode cX6_describeSetsUpTo 119 = .ok (.invokestatic 62, 3) := by decide +kernel
theorem dX6_describeSetsUpTo_122 : decode cX6_describeSetsUpTo 122 = .ok (.iastore, 1) := by decide +kernel
theorem dX6_describeSetsUpTo_123 : decode cX6_describeSetsUpTo 123 = .ok (.iload 5, 2) := by decide +kernel
theorem dX6_describeSetsUpTo_125 : decode cX6_describeSetsUpTo 125 = .ok (.ifCond .eq 14, 3) := by decide +kernel
theorem dX6_describeSetsUpTo_128 : decode cX6_describeSetsUpTo 128 = .ok (.aload_n 0, 1) := by decide +kernel
theorem dX6_describeSetsUpTo_129 : decode cX6_describeSetsUpTo 129 = .ok (.getfield 18, 3) := by decide +kernel
theorem dX6_describeSetsUpTo_132 : decode cX6_describeSetsUpTo 132 = .ok (.iload 5, 2) := by decide +kernel
theorem dX6_describeSetsUpTo_134 : decode cX6_describeSetsUpTo 134 = .ok (.iaload, 1) := by decide +kernel
theorem dX6_describeSetsUpTo_135 : decode cX6_describeSetsUpTo 135 = .ok (.iload_n 3, 1) := by decide +kernel
theorem dX6_describeSetsUpTo_136 : decode cX6_describeSetsUpTo 136 = .ok (.if_icmp .ne 7, 3) := by decide +kernel
theorem dX6_describeSetsUpTo_139 : decode cX6_describeSetsUpTo 139 = .ok (.iconst 1, 1) := by decide +kernel
theorem dX6_describeSetsUpTo_140 : decode cX6_describeSetsUpTo 140 = .ok (.goto 4, 3) := by decide +kernel
theorem dX6_describeSetsUpTo_143 : decode cX6_describeSetsUpTo 143 = .ok (.iconst 0, 1) := by decide +kernel
theorem dX6_describeSetsUpTo_144 : decode cX6_describeSetsUpTo 144 = .ok (.istore 7, 2) := by decide +kernel
theorem dX6_describeSetsUpTo_146 : decode cX6_describeSetsUpTo 146 = .ok (.iload 6, 2) := by decide +kernel
theorem dX6_describeSetsUpTo_148 : decode cX6_describeSetsUpTo 148 = .ok (.invokestatic 85, 3) := by decide +kernel
theorem dX6_describeSetsUpTo_151 : decode cX6_describeSetsUpTo 151 = .ok (.aload_n 0, 1) := by decide +kernel
theorem dX6_describeSetsUpTo_152 : decode cX6_describeSetsUpTo 152 = .ok (.getfield 40, 3) := by decide +kernel
theorem dX6_describeSetsUpTo_155 : decode cX6_describeSetsUpTo 155 = .ok (.if_icmp .gt 24, 3) := by decide +kernel
theorem dX6_describeSetsUpTo_158 : decode cX6_describeSetsUpTo 158 = .ok (.aload_n 0, 1) := by decide +kernel
theorem dX6_describeSetsUpTo_159 : decode cX6_describeSetsUpTo 159 = .ok (.getfield 21, 3) := by decide +kernel
theorem dX6_describeSetsUpTo_162 : decode cX6_describeSetsUpTo 162 = .ok (.iload 6, 2) := by decide +kernel
theorem dX6_describeSetsUpTo_164 : decode cX6_describeSetsUpTo 164 = .ok (.iaload, 1) := by decide +kernel
theorem dX6_describeSetsUpTo_165 : decode cX6_describeSetsUpTo 165 = .ok (.aload_n 0, 1) := by decide +kernel
theorem dX6_describeSetsUpTo_166 : decode cX6_describeSetsUpTo 166 = .ok (.getfield 24, 3) := by decide +kernel
theorem dX6_describeSetsUpTo_169 : decode cX6_describeSetsUpTo 169 = .ok (.iload 6, 2) := by decide +kernel
theorem dX6_describeSetsUpTo_171 : decode cX6_describeSetsUpTo 171 = .ok (.iaload, 1) := by decide +kernel
theorem dX6_describeSetsUpTo_172 : decode cX6_describeSetsUpTo 172 = .ok (.if_icmp .gt 7, 3) := by decide +kernel
theorem dX6_describeSetsUpTo_175 : decode cX6_describeSetsUpTo 175 = .ok (.iconst 1, 1) := by decide +kernel
theorem dX6_describeSetsUpTo_176 : decode cX6_describeSetsUpTo 176 = .ok (.goto 4, 3) := by decide +kernel
theorem dX6_describeSetsUpTo_179 : decode cX6_describeSetsUpTo 179 = .ok (.iconst 0, 1) := by decide +kernel
theorem dX6_describeSetsUpTo_180 : decode cX6_describeSetsUpTo 180 = .ok (.istore 8, 2) := by decide +kernel
theorem dX6_describeSetsUpTo_182 : decode cX6_describeSetsUpTo 182 = .ok (.aload_n 0, 1) := by decide +kernel
theorem dX6_describeSetsUpTo_183 : decode cX6_describeSetsUpTo 183 = .ok (.getfield 18, 3) := by decide +kernel
theorem dX6_describeSetsUpTo_186 : decode cX6_describeSetsUpTo 186 = .ok (.iload 6, 2) := by decide +kernel
theorem dX6_describeSetsUpTo_188 : decode cX6_describeSetsUpTo 188 = .ok (.iload 7, 2) := by decide +kernel
theorem dX6_describeSetsUpTo_190 : decode cX6_describeSetsUpTo 190 = .ok (.ifCond .eq 12, 3) := by decide +kernel
theorem dX6_describeSetsUpTo_193 : decode cX6_describeSetsUpTo 193 = .ok (.iload 8, 2) := by decide +kernel
theorem dX6_describeSetsUpTo_195 : decode cX6_describeSetsUpTo 195 = .ok (.ifCond .eq 7, 3) := by decide +kernel
theorem dX6_describeSetsUpTo_198 : decode cX6_describeSetsUpTo 198 = .ok (.iload_n 3, 1) := by decide +kernel
theorem dX6_describeSetsUpTo_199 : decode cX6_describeSetsUpTo 199 = .ok (.goto 4, 3) := by decide +kernel
theorem dX6_describeSetsUpTo_202 : decode cX6_describeSetsUpTo 202 = .ok (.iconst 0, 1) := by decide +kernel
theorem dX6_describeSetsUpTo_203 : decode cX6_describeSetsUpTo 203 = .ok (.iastore, 1) := by decide +kernel
theorem dX6_describeSetsUpTo_204 : decode cX6_describeSetsUpTo 204 = .ok (.iinc 5 1, 3) := by decide +kernel
theorem dX6_describeSetsUpTo_207 : decode cX6_describeSetsUpTo 207 = .ok (.goto (-174), 3) := by decide +kernel
theorem dX6_describeSetsUpTo_210 : decode cX6_describeSetsUpTo 210 = .ok (.return_, 1) := by decide +kernel
theorem dX6_findEnding_0 : decode cX6_findEnding 0 = .ok (.iconst (-1), 1) := by decide +kernel
theorem dX6_findEnding_1 : decode cX6_findEnding 1 = .ok (.istore_n 2, 1) := by decide +kernel
theorem dX6_findEnding_2 : decode cX6_findEnding 2 = .ok (.iconst 1, 1) := by decide +kernel
theorem dX6_findEnding_3 : decode cX6_findEnding 3 = .ok (.iload_n 1, 1) := by decide +kernel
theorem dX6_findEnding_4 : decode cX6_findEnding 4 = .ok (.invokestatic 85, 3) := by decide +kernel
theorem dX6_findEnding_7 : decode cX6_findEnding 7 = .ok (.ishl, 1) := by decide +kernel
theorem dX6_findEnding_8 : decode cX6_findEnding 8 = .ok (.istore_n 3, 1) := by decide +kernel
theorem dX6_findEnding_9 : decode cX6_findEnding 9 = .ok (.iconst 0, 1) := by decide +kernel
theorem dX6_findEnding_10 : decode cX6_findEnding 10 = .ok (.istore 4, 2) := by decide +kernel
theorem dX6_findEnding_12 : decode cX6_findEnding 12 = .ok (.iconst 1, 1) := by decide +kernel
theorem dX6_findEnding_13 : decode cX6_findEnding 13 = .ok (.istore 5, 2) := by decide +kernel
theorem dX6_findEnding_15 : decode cX6_findEnding 15 = .ok (.iload 5, 2) := by decide +kernel
theorem dX6_findEnding_17 : decode cX6_findEnding 17 = .ok (.iload_n 3, 1) := by decide +kernel
theorem dX6_findEnding_18 : decode cX6_findEnding 18 = .ok (.if_icmp .ge 63, 3) := by decide +kernel
theorem dX6_findEnding_21 : decode cX6_findEnding 21 = .ok (.iload 4, 2) := by decide +kernel
theorem dX6_findEnding_23 : decode cX6_findEnding 23 = .ok (.iload_n 1, 1) := by decide +kernel
theorem dX6_findEnding_24 : decode cX6_findEnding 24 = .ok (.isub, 1) := by decide +kernel
theorem dX6_findEnding_25 : decode cX6_findEnding 25 = .ok (.iload_n 1, 1) := by decide +kernel
theorem dX6_findEnding_26 : decode cX6_findEnding 26 = .ok (.iand, 1) := by decide +kernel
theorem dX6_findEnding_27 : decode cX6_findEnding 27 = .ok (.istore 4, 2) := by decide +kernel
theorem dX6_findEnding_29 : decode cX6_findEnding 29 = .ok (.aload_n 0, 1) := by decide +kernel
theorem dX6_findEnding_30 : decode cX6_findEnding 30 = .ok (.iload 4, 2) := by decide +kernel
theorem dX6_findEnding_32 : decode cX6_findEnding 32 = .ok (.iload_n 1, 1) := by decide +kernel
theorem dX6_findEnding_33 : decode cX6_findEnding 33 = .ok (.iload 4, 2) := by decide +kernel
theorem dX6_findEnding_35 : decode cX6_findEnding 35 = .ok (.isub, 1) := by decide +kernel
theorem dX6_findEnding_36 : decode cX6_findEnding 36 = .ok (.invokevirtual 90, 3) := by decide +kernel
theorem dX6_findEnding_39 : decode cX6_findEnding 39 = .ok (.istore 6, 2) := by decide +kernel
theorem dX6_findEnding_41 : decode cX6_findEnding 41 = .ok (.iload 6, 2) := by decide +kernel
theorem dX6_findEnding_43 : decode cX6_findEnding 43 = .ok (.iconst (-1), 1) := by decide +kernel
theorem dX6_findEnding_44 : decode cX6_findEnding 44 = .ok (.if_icmp .eq 31, 3) := by decide +kernel
theorem dX6_findEnding_47 : decode cX6_findEnding 47 = .ok (.iload_n 2, 1) := by decide +kernel
theorem dX6_findEnding_48 : decode cX6_findEnding 48 = .ok (.iconst (-1), 1) := by decide +kernel
theorem dX6_findEnding_49 : decode cX6_findEnding 49 = .ok (.if_icmp .eq 16, 3) := by decide +kernel
theorem dX6_findEnding_52 : decode cX6_findEnding 52 = .ok (.iload 6, 2) := by decide +kernel
theorem dX6_findEnding_54 : decode cX6_findEnding 54 = .ok (.sipush 1024, 3) := by decide +kernel
theorem dX6_findEnding_57 : decode cX6_findEnding 57 = .ok (.imul, 1) := by decide +kernel
theorem dX6_findEnding_58 : decode cX6_findEnding 58 = .ok (.iload 4, 2) := by decide +kernel
theorem dX6_findEnding_60 : decode cX6_findEnding 60 = .ok (.iadd, 1) := by decide +kernel
theorem dX6_findEnding_61 : decode cX6_findEnding 61 = .ok (.iload_n 2, 1) := by decide +kernel
theorem dX6_findEnding_62 : decode cX6_findEnding 62 = .ok (.if_icmp .ge 13, 3) := by decide +kernel
theorem dX6_findEnding_65 : decode cX6_findEnding 65 = .ok (.iload 6, 2) := by decide +kernel
theorem dX6_findEnding_67 : decode cX6_findEnding 67 = .ok (.sipush 1024, 3) := by decide +kernel
theorem dX6_findEnding_70 : decode cX6_findEnding 70 = .ok (.imul, 1) := by decide +kernel
theorem dX6_findEnding_71 : decode cX6_findEnding 71 = .ok (.iload 4, 2) := by decide +kernel
theorem dX6_findEnding_73 : decode cX6_findEnding 73 = .ok (.iadd, 1) := by decide +kernel
theorem dX6_findEnding_74 : decode cX6_findEnding 74 = .ok (.istore_n 2, 1) := by decide +kernel
theorem dX6_findEnding_75 : decode cX6_findEnding 75 = .ok (.iinc 5 1, 3) := by decide +kernel
theorem dX6_findEnding_78 : decode cX6_findEnding 78 = .ok (.goto (-63), 3) := by decide +kernel
theorem dX6_findEnding_81 : decode cX6_findEnding 81 = .ok (.iload_n 2, 1) := by decide +kernel
theorem dX6_findEnding_82 : decode cX6_findEnding 82 = .ok (.ireturn, 1) := by decide +kernel
theorem dX6_outWith_0 : decode cX6_outWith 0 = .ok (.iload_n 1, 1) := by decide +kernel
theorem dX6_outWith_1 : decode cX6_outWith 1 = .ok (.ifCond .lt 21, 3) := by decide +kernel
theorem dX6_outWith_4 : decode cX6_outWith 4 = .ok (.iload_n 1, 1) := by decide +kernel
theorem dX6_outWith_5 : decode cX6_outWith 5 = .ok (.sipush 1024, 3) := by decide +kernel
theorem dX6_outWith_8 : decode cX6_outWith 8 = .ok (.if_icmp .ge 14, 3) := by decide +kernel
theorem dX6_outWith_11 : decode cX6_outWith 11 = .ok (.iload_n 2, 1) := by decide +kernel
theorem dX6_outWith_12 : decode cX6_outWith 12 = .ok (.ifCond .lt 10, 3) := by decide +kernel
theorem dX6_outWith_15 : decode cX6_outWith 15 = .ok (.iload_n 2, 1) := by decide +kernel
theorem dX6_outWith_16 : decode cX6_outWith 16 = .ok (.sipush 1024, 3) := by decide +kernel
theorem dX6_outWith_19 : decode cX6_outWith 19 = .ok (.if_icmp .lt 5, 3) := by decide +kernel
theorem dX6_outWith_22 : decode cX6_outWith 22 = .ok (.iconst (-1), 1) := by decide +kernel
theorem dX6_outWith_23 : decode cX6_outWith 23 = .ok (.ireturn, 1) := by decide +kernel
theorem dX6_outWith_24 : decode cX6_outWith 24 = .ok (.aload_n 0, 1) := by decide +kernel
theorem dX6_outWith_25 : decode cX6_outWith 25 = .ok (.getfield 18, 3) := by decide +kernel
theorem dX6_outWith_28 : decode cX6_outWith 28 = .ok (.iload_n 1, 1) := by decide +kernel
theorem dX6_outWith_29 : decode cX6_outWith 29 = .ok (.iaload, 1) := by decide +kernel
theorem dX6_outWith_30 : decode cX6_outWith 30 = .ok (.ifCond .eq 13, 3) := by decide +kernel
theorem dX6_outWith_33 : decode cX6_outWith 33 = .ok (.aload_n 0, 1) := by decide +kernel
theorem dX6_outWith_34 : decode cX6_outWith 34 = .ok (.getfield 27, 3) := by decide +kernel
theorem dX6_outWith_37 : decode cX6_outWith 37 = .ok (.iload_n 2, 1) := by decide +kernel
theorem dX6_outWith_38 : decode cX6_outWith 38 = .ok (.iaload, 1) := by decide +kernel
theorem dX6_outWith_39 : decode cX6_outWith 39 = .ok (.iconst (-1), 1) := by decide +kernel
theorem dX6_outWith_40 : decode cX6_outWith 40 = .ok (.if_icmp .ne 5, 3) := by decide +kernel
theorem dX6_outWith_43 : decode cX6_outWith 43 = .ok (.iconst (-1), 1) := by decide +kernel
theorem dX6_outWith_44 : decode cX6_outWith 44 = .ok (.ireturn, 1) := by decide +kernel
theorem dX6_outWith_45 : decode cX6_outWith 45 = .ok (.aload_n 0, 1) := by decide +kernel
theorem dX6_outWith_46 : decode cX6_outWith 46 = .ok (.getfield 27, 3) := by decide +kernel
theorem dX6_outWith_49 : decode cX6_outWith 49 = .ok (.iload_n 2, 1) := by decide +kernel
theorem dX6_outWith_50 : decode cX6_outWith 50 = .ok (.iaload, 1) := by decide +kernel
theorem dX6_outWith_51 : decode cX6_outWith 51 = .ok (.sipush 1024, 3) := by decide +kernel
theorem dX6_outWith_54 : decode cX6_outWith 54 = .ok (.idiv, 1) := by decide +kernel
theorem dX6_outWith_55 : decode cX6_outWith 55 = .ok (.istore_n 3, 1) := by decide +kernel
theorem dX6_outWith_56 : decode cX6_outWith 56 = .ok (.iload_n 3, 1) := by decide +kernel
theorem dX6_outWith_57 : decode cX6_outWith 57 = .ok (.aload_n 0, 1) := by decide +kernel
theorem dX6_outWith_58 : decode cX6_outWith 58 = .ok (.getfield 24, 3) := by decide +kernel
theorem dX6_outWith_61 : decode cX6_outWith 61 = .ok (.iload_n 1, 1) := by decide +kernel
theorem dX6_outWith_62 : decode cX6_outWith 62 = .ok (.iaload, 1) := by decide +kernel
theorem dX6_outWith_63 : decode cX6_outWith 63 = .ok (.if_icmp .le 7, 3) := by decide +kernel
theorem dX6_outWith_66 : decode cX6_outWith 66 = .ok (.iconst (-1), 1) := by decide +kernel
theorem dX6_outWith_67 : decode cX6_outWith 67 = .ok (.goto 30, 3) := by decide +kernel
theorem dX6_outWith_70 : decode cX6_outWith 70 = .ok (.iload_n 3, 1) := by decide +kernel
theorem dX6_outWith_71 : decode cX6_outWith 71 = .ok (.aload_n 0, 1) := by decide +kernel
theorem dX6_outWith_72 : decode cX6_outWith 72 = .ok (.getfield 21, 3) := by decide +kernel
theorem dX6_outWith_75 : decode cX6_outWith 75 = .ok (.iload_n 1, 1) := by decide +kernel
theorem dX6_outWith_76 : decode cX6_outWith 76 = .ok (.iaload, 1) := by decide +kernel
theorem dX6_outWith_77 : decode cX6_outWith 77 = .ok (.invokestatic 82, 3) := by decide +kernel
theorem dX6_outWith_80 : decode cX6_outWith 80 = .ok (.aload_n 0, 1) := by decide +kernel
theorem dX6_outWith_81 : decode cX6_outWith 81 = .ok (.getfield 43, 3) := by decide +kernel
theorem dX6_outWith_84 : decode cX6_outWith 84 = .ok (.iadd, 1) := by decide +kernel
theorem dX6_outWith_85 : decode cX6_outWith 85 = .ok (.aload_n 0, 1) := by decide +kernel
theorem dX6_outWith_86 : decode cX6_outWith 86 = .ok (.getfield 46, 3) := by decide +kernel
theorem dX6_outWith_89 : decode cX6_outWith 89 = .ok (.aload_n 0, 1) := by decide +kernel
theorem dX6_outWith_90 : decode cX6_outWith 90 = .ok (.getfield 18, 3) := by decide +kernel
theorem dX6_outWith_93 : decode cX6_outWith 93 = .ok (.iload_n 1, 1) := by decide +kernel
theorem dX6_outWith_94 : decode cX6_outWith 94 = .ok (.iaload, 1) := by decide +kernel
theorem dX6_outWith_95 : decode cX6_outWith 95 = .ok (.imul, 1) := by decide +kernel
theorem dX6_outWith_96 : decode cX6_outWith 96 = .ok (.iadd, 1) := by decide +kernel
theorem dX6_outWith_97 : decode cX6_outWith 97 = .ok (.ireturn, 1) := by decide +kernel
theorem dX6_choose_0 : decode cX6_choose 0 = .ok (.aload_n 0, 1) := by decide +kernel
theorem dX6_choose_1 : decode cX6_choose 1 = .ok (.iconst 0, 1) := by decide +kernel
theorem dX6_choose_2 : decode cX6_choose 2 = .ok (.putfield 52, 3) := by decide +kernel
theorem dX6_choose_5 : decode cX6_choose 5 = .ok (.iconst 1, 1) := by decide +kernel
theorem dX6_choose_6 : decode cX6_choose 6 = .ok (.istore_n 2, 1) := by decide +kernel
theorem dX6_choose_7 : decode cX6_choose 7 = .ok (.iload_n 2, 1) := by decide +kernel
theorem dX6_choose_8 : decode cX6_choose 8 = .ok (.iload_n 1, 1) := by decide +kernel
theorem dX6_choose_9 : decode cX6_choose 9 = .ok (.if_icmp .ge 72, 3) := by decide +kernel
theorem dX6_choose_12 : decode cX6_choose 12 = .ok (.iload_n 2, 1) := by decide +kernel
theorem dX6_choose_13 : decode cX6_choose 13 = .ok (.invokestatic 85, 3) := by decide +kernel
theorem dX6_choose_16 : decode cX6_choose 16 = .ok (.aload_n 0, 1) := by decide +kernel
theorem dX6_choose_17 : decode cX6_choose 17 = .ok (.getfield 52, 3) := by decide +kernel
theorem dX6_choose_20 : decode cX6_choose 20 = .ok (.invokestatic 85, 3) := by decide +kernel
theorem dX6_choose_23 : decode cX6_choose 23 = .ok (.isub, 1) := by decide +kernel
theorem dX6_choose_24 : decode cX6_choose 24 = .ok (.istore_n 3, 1) := by decide +kernel
theorem dX6_choose_25 : decode cX6_choose 25 = .ok (.aload_n 0, 1) := by decide +kernel
theorem dX6_choose_26 : decode cX6_choose 26 = .ok (.iload_n 2, 1) := by decide +kernel
theorem dX6_choose_27 : decode cX6_choose 27 = .ok (.invokevirtual 93, 3) := by decide +kernel
theorem dX6_choose_30 : decode cX6_choose 30 = .ok (.aload_n 0, 1) := by decide +kernel
theorem dX6_choose_31 : decode cX6_choose 31 = .ok (.aload_n 0, 1) := by decide +kernel
theorem dX6_choose_32 : decode cX6_choose 32 = .ok (.getfield 52, 3) := by decide +kernel
theorem dX6_choose_35 : decode cX6_choose 35 = .ok (.invokevirtual 93, 3) := by decide +kernel
theorem dX6_choose_38 : decode cX6_choose 38 = .ok (.if_icmp .ge 7, 3) := by decide +kernel
theorem dX6_choose_41 : decode cX6_choose 41 = .ok (.iconst 1, 1) := by decide +kernel
theorem dX6_choose_42 : decode cX6_choose 42 = .ok (.goto 4, 3) := by decide +kernel
theorem dX6_choose_45 : decode cX6_choose 45 = .ok (.iconst 0, 1) := by decide +kernel
theorem dX6_choose_46 : decode cX6_choose 46 = .ok (.istore 4, 2) := by decide +kernel
theorem dX6_choose_48 : decode cX6_choose 48 = .ok (.aload_n 0, 1) := by decide +kernel
theorem dX6_choose_49 : decode cX6_choose 49 = .ok (.iload_n 2, 1) := by decide +kernel
theorem dX6_choose_50 : decode cX6_choose 50 = .ok (.invokevirtual 93, 3) := by decide +kernel
theorem dX6_choose_53 : decode cX6_choose 53 = .ok (.iconst (-1), 1) := by decide +kernel
theorem dX6_choose_54 : decode cX6_choose 54 = .ok (.if_icmp .eq 21, 3) := by decide +kernel
theorem dX6_choose_57 : decode cX6_choose 57 = .ok (.iload_n 3, 1) := by decide +kernel
theorem dX6_choose_58 : decode cX6_choose 58 = .ok (.ifCond .gt 12, 3) := by decide +kernel
theorem dX6_choose_61 : decode cX6_choose 61 = .ok (.iload_n 3, 1) := by decide +kernel
theorem dX6_choose_62 : decode cX6_choose 62 = .ok (.ifCond .ne 13, 3) := by decide +kernel
theorem dX6_choose_65 : decode cX6_choose 65 = .ok (.iload 4, 2) := by decide +kernel
theorem dX6_choose_67 : decode cX6_choose 67 = .ok (.ifCond .eq 8, 3) := by decide +kernel
theorem dX6_choose_70 : decode cX6_choose 70 = .ok (.aload_n 0, 1) := by decide +kernel
theorem dX6_choose_71 : decode cX6_choose 71 = .ok (.iload_n 2, 1) := by decide +kernel
theorem dX6_choose_72 : decode cX6_choose 72 = .ok (.putfield 52, 3) := by decide +kernel
theorem dX6_choose_75 : decode cX6_choose 75 = .ok (.iinc 2 1, 3) := by decide +kernel
theorem dX6_choose_78 : decode cX6_choose 78 = .ok (.goto (-71), 3) := by decide +kernel
theorem dX6_choose_81 : decode cX6_choose 81 = .ok (.return_, 1) := by decide +kernel
theorem dX6_outOf_0 : decode cX6_outOf 0 = .ok (.iload_n 1, 1) := by decide +kernel
theorem dX6_outOf_1 : decode cX6_outOf 1 = .ok (.ifCond .lt 20, 3) := by decide +kernel
theorem dX6_outOf_4 : decode cX6_outOf 4 = .ok (.iload_n 1, 1) := by decide +kernel
theorem dX6_outOf_5 : decode cX6_outOf 5 = .ok (.sipush 1024, 3) := by decide +kernel
theorem dX6_outOf_8 : decode cX6_outOf 8 = .ok (.if_icmp .ge 13, 3) := by decide +kernel
theorem dX6_outOf_11 : decode cX6_outOf 11 = .ok (.aload_n 0, 1) := by decide +kernel
theorem dX6_outOf_12 : decode cX6_outOf 12 = .ok (.getfield 27, 3) := by decide +kernel
theorem dX6_outOf_15 : decode cX6_outOf 15 = .ok (.iload_n 1, 1) := by decide +kernel
theorem dX6_outOf_16 : decode cX6_outOf 16 = .ok (.iaload, 1) := by decide +kernel
theorem dX6_outOf_17 : decode cX6_outOf 17 = .ok (.iconst (-1), 1) := by decide +kernel
theorem dX6_outOf_18 : decode cX6_outOf 18 = .ok (.if_icmp .ne 7, 3) := by decide +kernel
theorem dX6_outOf_21 : decode cX6_outOf 21 = .ok (.iconst (-1), 1) := by decide +kernel
theorem dX6_outOf_22 : decode cX6_outOf 22 = .ok (.goto 13, 3) := by decide +kernel
theorem dX6_outOf_25 : decode cX6_outOf 25 = .ok (.aload_n 0, 1) := by decide +kernel
theorem dX6_outOf_26 : decode cX6_outOf 26 = .ok (.getfield 27, 3) := by decide +kernel
theorem dX6_outOf_29 : decode cX6_outOf 29 = .ok (.iload_n 1, 1) := by decide +kernel
theorem dX6_outOf_30 : decode cX6_outOf 30 = .ok (.iaload, 1) := by decide +kernel
theorem dX6_outOf_31 : decode cX6_outOf 31 = .ok (.sipush 1024, 3) := by decide +kernel
theorem dX6_outOf_34 : decode cX6_outOf 34 = .ok (.idiv, 1) := by decide +kernel
theorem dX6_outOf_35 : decode cX6_outOf 35 = .ok (.ireturn, 1) := by decide +kernel
theorem dX6_lastLoadOf_0 : decode cX6_lastLoadOf 0 = .ok (.iload_n 1, 1) := by decide +kernel
theorem dX6_lastLoadOf_1 : decode cX6_lastLoadOf 1 = .ok (.ifCond .lt 20, 3) := by decide +kernel
theorem dX6_lastLoadOf_4 : decode cX6_lastLoadOf 4 = .ok (.iload_n 1, 1) := by decide +kernel
theorem dX6_lastLoadOf_5 : decode cX6_lastLoadOf 5 = .ok (.sipush 1024, 3) := by decide +kernel
theorem dX6_lastLoadOf_8 : decode cX6_lastLoadOf 8 = .ok (.if_icmp .ge 13, 3) := by decide +kernel
theorem dX6_lastLoadOf_11 : decode cX6_lastLoadOf 11 = .ok (.aload_n 0, 1) := by decide +kernel
theorem dX6_lastLoadOf_12 : decode cX6_lastLoadOf 12 = .ok (.getfield 27, 3) := by decide +kernel
theorem dX6_lastLoadOf_15 : decode cX6_lastLoadOf 15 = .ok (.iload_n 1, 1) := by decide +kernel
theorem dX6_lastLoadOf_16 : decode cX6_lastLoadOf 16 = .ok (.iaload, 1) := by decide +kernel
theorem dX6_lastLoadOf_17 : decode cX6_lastLoadOf 17 = .ok (.iconst (-1), 1) := by decide +kernel
theorem dX6_lastLoadOf_18 : decode cX6_lastLoadOf 18 = .ok (.if_icmp .ne 7, 3) := by decide +kernel
theorem dX6_lastLoadOf_21 : decode cX6_lastLoadOf 21 = .ok (.iconst 0, 1) := by decide +kernel
theorem dX6_lastLoadOf_22 : decode cX6_lastLoadOf 22 = .ok (.goto 13, 3) := by decide +kernel
theorem dX6_lastLoadOf_25 : decode cX6_lastLoadOf 25 = .ok (.aload_n 0, 1) := by decide +kernel
theorem dX6_lastLoadOf_26 : decode cX6_lastLoadOf 26 = .ok (.getfield 27, 3) := by decide +kernel
theorem dX6_lastLoadOf_29 : decode cX6_lastLoadOf 29 = .ok (.iload_n 1, 1) := by decide +kernel
theorem dX6_lastLoadOf_30 : decode cX6_lastLoadOf 30 = .ok (.iaload, 1) := by decide +kernel
theorem dX6_lastLoadOf_31 : decode cX6_lastLoadOf 31 = .ok (.sipush 1024, 3) := by decide +kernel
theorem dX6_lastLoadOf_34 : decode cX6_lastLoadOf 34 = .ok (.irem, 1) := by decide +kernel
theorem dX6_lastLoadOf_35 : decode cX6_lastLoadOf 35 = .ok (.ireturn, 1) := by decide +kernel
theorem dX6_listLoads_0 : decode cX6_listLoads 0 = .ok (.aload_n 0, 1) := by decide +kernel
theorem dX6_listLoads_1 : decode cX6_listLoads 1 = .ok (.iconst 0, 1) := by decide +kernel
theorem dX6_listLoads_2 : decode cX6_listLoads 2 = .ok (.putfield 55, 3) := by decide +kernel
theorem dX6_listLoads_5 : decode cX6_listLoads 5 = .ok (.aload_n 0, 1) := by decide +kernel
theorem dX6_listLoads_6 : decode cX6_listLoads 6 = .ok (.getfield 52, 3) := by decide +kernel
theorem dX6_listLoads_9 : decode cX6_listLoads 9 = .ok (.istore_n 1, 1) := by decide +kernel
theorem dX6_listLoads_10 : decode cX6_listLoads 10 = .ok (.iconst 0, 1) := by decide +kernel
theorem dX6_listLoads_11 : decode cX6_listLoads 11 = .ok (.istore_n 2, 1) := by decide +kernel
theorem dX6_listLoads_12 : decode cX6_listLoads 12 = .ok (.iload_n 2, 1) := by decide +kernel
theorem dX6_listLoads_13 : decode cX6_listLoads 13 = .ok (.bipush 10, 2) := by decide +kernel
theorem dX6_listLoads_15 : decode cX6_listLoads 15 = .ok (.if_icmp .ge 31, 3) := by decide +kernel
theorem dX6_listLoads_18 : decode cX6_listLoads 18 = .ok (.iload_n 1, 1) := by decide +kernel
theorem dX6_listLoads_19 : decode cX6_listLoads 19 = .ok (.ifCond .le 27, 3) := by decide +kernel
theorem dX6_listLoads_22 : decode cX6_listLoads 22 = .ok (.iload_n 1, 1) := by decide +kernel
theorem dX6_listLoads_23 : decode cX6_listLoads 23 = .ok (.aload_n 0, 1) := by decide +kernel
theorem dX6_listLoads_24 : decode cX6_listLoads 24 = .ok (.iload_n 1, 1) := by decide +kernel
theorem dX6_listLoads_25 : decode cX6_listLoads 25 = .ok (.invokevirtual 96, 3) := by decide +kernel
theorem dX6_listLoads_28 : decode cX6_listLoads 28 = .ok (.isub, 1) := by decide +kernel
theorem dX6_listLoads_29 : decode cX6_listLoads 29 = .ok (.istore_n 1, 1) := by decide +kernel
theorem dX6_listLoads_30 : decode cX6_listLoads 30 = .ok (.aload_n 0, 1) := by decide +kernel
theorem dX6_listLoads_31 : decode cX6_listLoads 31 = .ok (.dup, 1) := by decide +kernel
theorem dX6_listLoads_32 : decode cX6_listLoads 32 = .ok (.getfield 55, 3) := by decide +kernel
theorem dX6_listLoads_35 : decode cX6_listLoads 35 = .ok (.iconst 1, 1) := by decide +kernel
theorem dX6_listLoads_36 : decode cX6_listLoads 36 = .ok (.iadd, 1) := by decide +kernel
theorem dX6_listLoads_37 : decode cX6_listLoads 37 = .ok (.putfield 55, 3) := by decide +kernel
theorem dX6_listLoads_40 : decode cX6_listLoads 40 = .ok (.iinc 2 1, 3) := by decide +kernel
theorem dX6_listLoads_43 : decode cX6_listLoads 43 = .ok (.goto (-31), 3) := by decide +kernel
theorem dX6_listLoads_46 : decode cX6_listLoads 46 = .ok (.aload_n 0, 1) := by decide +kernel
theorem dX6_listLoads_47 : decode cX6_listLoads 47 = .ok (.getfield 52, 3) := by decide +kernel
theorem dX6_listLoads_50 : decode cX6_listLoads 50 = .ok (.istore_n 1, 1) := by decide +kernel
theorem dX6_listLoads_51 : decode cX6_listLoads 51 = .ok (.aload_n 0, 1) := by decide +kernel
theorem dX6_listLoads_52 : decode cX6_listLoads 52 = .ok (.getfield 55, 3) := by decide +kernel
theorem dX6_listLoads_55 : decode cX6_listLoads 55 = .ok (.iconst 1, 1) := by decide +kernel
theorem dX6_listLoads_56 : decode cX6_listLoads 56 = .ok (.isub, 1) := by decide +kernel
theorem dX6_listLoads_57 : decode cX6_listLoads 57 = .ok (.istore_n 2, 1) := by decide +kernel
theorem dX6_listLoads_58 : decode cX6_listLoads 58 = .ok (.iload_n 2, 1) := by decide +kernel
theorem dX6_listLoads_59 : decode cX6_listLoads 59 = .ok (.ifCond .lt 30, 3) := by decide +kernel
theorem dX6_listLoads_62 : decode cX6_listLoads 62 = .ok (.aload_n 0, 1) := by decide +kernel
theorem dX6_listLoads_63 : decode cX6_listLoads 63 = .ok (.iload_n 1, 1) := by decide +kernel
theorem dX6_listLoads_64 : decode cX6_listLoads 64 = .ok (.invokevirtual 96, 3) := by decide +kernel
theorem dX6_listLoads_67 : decode cX6_listLoads 67 = .ok (.istore_n 3, 1) := by decide +kernel
theorem dX6_listLoads_68 : decode cX6_listLoads 68 = .ok (.iload_n 1, 1) := by decide +kernel
theorem dX6_listLoads_69 : decode cX6_listLoads 69 = .ok (.iload_n 3, 1) := by decide +kernel
theorem dX6_listLoads_70 : decode cX6_listLoads 70 = .ok (.isub, 1) := by decide +kernel
theorem dX6_listLoads_71 : decode cX6_listLoads 71 = .ok (.istore_n 1, 1) := by decide +kernel
theorem dX6_listLoads_72 : decode cX6_listLoads 72 = .ok (.aload_n 0, 1) := by decide +kernel
theorem dX6_listLoads_73 : decode cX6_listLoads 73 = .ok (.iload_n 2, 1) := by decide +kernel
theorem dX6_listLoads_74 : decode cX6_listLoads 74 = .ok (.iload_n 3, 1) := by decide +kernel
theorem dX6_listLoads_75 : decode cX6_listLoads 75 = .ok (.aload_n 0, 1) := by decide +kernel
theorem dX6_listLoads_76 : decode cX6_listLoads 76 = .ok (.iload_n 1, 1) := by decide +kernel
theorem dX6_listLoads_77 : decode cX6_listLoads 77 = .ok (.invokevirtual 93, 3) := by decide +kernel
theorem dX6_listLoads_80 : decode cX6_listLoads 80 = .ok (.invokevirtual 99, 3) := by decide +kernel
theorem dX6_listLoads_83 : decode cX6_listLoads 83 = .ok (.iinc 2 (-1), 3) := by decide +kernel
theorem dX6_listLoads_86 : decode cX6_listLoads 86 = .ok (.goto (-28), 3) := by decide +kernel
theorem dX6_listLoads_89 : decode cX6_listLoads 89 = .ok (.return_, 1) := by decide +kernel
theorem dX6_writeLoad_0 : decode cX6_writeLoad 0 = .ok (.iload_n 1, 1) := by decide +kernel
theorem dX6_writeLoad_1 : decode cX6_writeLoad 1 = .ok (.ifCond .lt 20, 3) := by decide +kernel
theorem dX6_writeLoad_4 : decode cX6_writeLoad 4 = .ok (.iload_n 1, 1) := by decide +kernel
theorem dX6_writeLoad_5 : decode cX6_writeLoad 5 = .ok (.bipush 10, 2) := by decide +kernel
theorem dX6_writeLoad_7 : decode cX6_writeLoad 7 = .ok (.if_icmp .ge 14, 3) := by decide +kernel
theorem dX6_writeLoad_10 : decode cX6_writeLoad 10 = .ok (.iload_n 2, 1) := by decide +kernel
theorem dX6_writeLoad_11 : decode cX6_writeLoad 11 = .ok (.ifCond .lt 10, 3) := by decide +kernel
theorem dX6_writeLoad_14 : decode cX6_writeLoad 14 = .ok (.iload_n 2, 1) := by decide +kernel
theorem dX6_writeLoad_15 : decode cX6_writeLoad 15 = .ok (.sipush 1024, 3) := by decide +kernel
theorem dX6_writeLoad_18 : decode cX6_writeLoad 18 = .ok (.if_icmp .lt 4, 3) := by decide +kernel
theorem dX6_writeLoad_21 : decode cX6_writeLoad 21 = .ok (.return_, 1) := by decide +kernel
theorem dX6_writeLoad_22 : decode cX6_writeLoad 22 = .ok (.aload_n 0, 1) := by decide +kernel
theorem dX6_writeLoad_23 : decode cX6_writeLoad 23 = .ok (.getfield 30, 3) := by decide +kernel
theorem dX6_writeLoad_26 : decode cX6_writeLoad 26 = .ok (.iload_n 1, 1) := by decide +kernel
theorem dX6_writeLoad_27 : decode cX6_writeLoad 27 = .ok (.iload_n 2, 1) := by decide +kernel
theorem dX6_writeLoad_28 : decode cX6_writeLoad 28 = .ok (.iastore, 1) := by decide +kernel
theorem dX6_writeLoad_29 : decode cX6_writeLoad 29 = .ok (.aload_n 0, 1) := by decide +kernel
theorem dX6_writeLoad_30 : decode cX6_writeLoad 30 = .ok (.getfield 33, 3) := by decide +kernel
theorem dX6_writeLoad_33 : decode cX6_writeLoad 33 = .ok (.iload_n 1, 1) := by decide +kernel
theorem dX6_writeLoad_34 : decode cX6_writeLoad 34 = .ok (.iload_n 3, 1) := by decide +kernel
theorem dX6_writeLoad_35 : decode cX6_writeLoad 35 = .ok (.aload_n 0, 1) := by decide +kernel
theorem dX6_writeLoad_36 : decode cX6_writeLoad 36 = .ok (.getfield 21, 3) := by decide +kernel
theorem dX6_writeLoad_39 : decode cX6_writeLoad 39 = .ok (.iload_n 2, 1) := by decide +kernel
theorem dX6_writeLoad_40 : decode cX6_writeLoad 40 = .ok (.iaload, 1) := by decide +kernel
theorem dX6_writeLoad_41 : decode cX6_writeLoad 41 = .ok (.invokestatic 82, 3) := by decide +kernel
theorem dX6_writeLoad_44 : decode cX6_writeLoad 44 = .ok (.iastore, 1) := by decide +kernel
theorem dX6_writeLoad_45 : decode cX6_writeLoad 45 = .ok (.return_, 1) := by decide +kernel
theorem dX6_tell_0 : decode cX6_tell 0 = .ok (.iload_n 1, 1) := by decide +kernel
theorem dX6_tell_1 : decode cX6_tell 1 = .ok (.ifCond .lt 17, 3) := by decide +kernel
theorem dX6_tell_4 : decode cX6_tell 4 = .ok (.iload_n 1, 1) := by decide +kernel
theorem dX6_tell_5 : decode cX6_tell 5 = .ok (.aload_n 0, 1) := by decide +kernel
theorem dX6_tell_6 : decode cX6_tell 6 = .ok (.getfield 55, 3) := by decide +kernel
theorem dX6_tell_9 : decode cX6_tell 9 = .ok (.if_icmp .ge 9, 3) := by decide +kernel
theorem dX6_tell_12 : decode cX6_tell 12 = .ok (.iload_n 1, 1) := by decide +kernel
theorem dX6_tell_13 : decode cX6_tell 13 = .ok (.bipush 10, 2) := by decide +kernel
theorem dX6_tell_15 : decode cX6_tell 15 = .ok (.if_icmp .lt 5, 3) := by decide +kernel
theorem dX6_tell_18 : decode cX6_tell 18 = .ok (.iconst (-1), 1) := by decide +kernel
theorem dX6_tell_19 : decode cX6_tell 19 = .ok (.ireturn, 1) := by decide +kernel
theorem dX6_tell_20 : decode cX6_tell 20 = .ok (.iload_n 2, 1) := by decide +kernel
theorem dX6_tell_21 : decode cX6_tell 21 = .ok (.lookupswitch 41 #[(0, 27), (1, 34)], 27) := by decide +kernel
theorem dX6_tell_48 : decode cX6_tell 48 = .ok (.aload_n 0, 1) := by decide +kernel
theorem dX6_tell_49 : decode cX6_tell 49 = .ok (.getfield 30, 3) := by decide +kernel
theorem dX6_tell_52 : decode cX6_tell 52 = .ok (.iload_n 1, 1) := by decide +kernel
theorem dX6_tell_53 : decode cX6_tell 53 = .ok (.iaload, 1) := by decide +kernel
theorem dX6_tell_54 : decode cX6_tell 54 = .ok (.ireturn, 1) := by decide +kernel
theorem dX6_tell_55 : decode cX6_tell 55 = .ok (.aload_n 0, 1) := by decide +kernel
theorem dX6_tell_56 : decode cX6_tell 56 = .ok (.getfield 33, 3) := by decide +kernel
theorem dX6_tell_59 : decode cX6_tell 59 = .ok (.iload_n 1, 1) := by decide +kernel
theorem dX6_tell_60 : decode cX6_tell 60 = .ok (.iaload, 1) := by decide +kernel
theorem dX6_tell_61 : decode cX6_tell 61 = .ok (.ireturn, 1) := by decide +kernel
theorem dX6_tell_62 : decode cX6_tell 62 = .ok (.iconst (-1), 1) := by decide +kernel
theorem dX6_tell_63 : decode cX6_tell 63 = .ok (.ireturn, 1) := by decide +kernel
theorem dX7_init_0 : decode cX7_init 0 = .ok (.aload_n 0, 1) := by decide +kernel
theorem dX7_init_1 : decode cX7_init 1 = .ok (.invokespecial 3, 3) := by decide +kernel
theorem dX7_init_4 : decode cX7_init 4 = .ok (.aload_n 0, 1) := by decide +kernel
theorem dX7_init_5 : decode cX7_init 5 = .ok (.sipush 600, 3) := by decide +kernel
theorem dX7_init_8 : decode cX7_init 8 = .ok (.newarray .int, 2) := by decide +kernel
theorem dX7_init_10 : decode cX7_init 10 = .ok (.putfield 11, 3) := by decide +kernel
theorem dX7_init_13 : decode cX7_init 13 = .ok (.aload_n 0, 1) := by decide +kernel
theorem dX7_init_14 : decode cX7_init 14 = .ok (.iconst 0, 1) := by decide +kernel
theorem dX7_init_15 : decode cX7_init 15 = .ok (.putfield 15, 3) := by decide +kernel
theorem dX7_init_18 : decode cX7_init 18 = .ok (.return_, 1) := by decide +kernel
theorem dX7_hasRoomForFeed_0 : decode cX7_hasRoomForFeed 0 = .ok (.aload_n 0, 1) := by decide +kernel
theorem dX7_hasRoomForFeed_1 : decode cX7_hasRoomForFeed 1 = .ok (.getfield 15, 3) := by decide +kernel
theorem dX7_hasRoomForFeed_4 : decode cX7_hasRoomForFeed 4 = .ok (.bipush 20, 2) := by decide +kernel
theorem dX7_hasRoomForFeed_6 : decode cX7_hasRoomForFeed 6 = .ok (.iadd, 1) := by decide +kernel
theorem dX7_hasRoomForFeed_7 : decode cX7_hasRoomForFeed 7 = .ok (.aload_n 0, 1) := by decide +kernel
theorem dX7_hasRoomForFeed_8 : decode cX7_hasRoomForFeed 8 = .ok (.getfield 11, 3) := by decide +kernel
theorem dX7_hasRoomForFeed_11 : decode cX7_hasRoomForFeed 11 = .ok (.arraylength, 1) := by decide +kernel
theorem dX7_hasRoomForFeed_12 : decode cX7_hasRoomForFeed 12 = .ok (.if_icmp .gt 7, 3) := by decide +kernel
theorem dX7_hasRoomForFeed_15 : decode cX7_hasRoomForFeed 15 = .ok (.iconst 1, 1) := by decide +kernel
theorem dX7_hasRoomForFeed_16 : decode cX7_hasRoomForFeed 16 = .ok (.goto 4, 3) := by decide +kernel
theorem dX7_hasRoomForFeed_19 : decode cX7_hasRoomForFeed 19 = .ok (.iconst 0, 1) := by decide +kernel
theorem dX7_hasRoomForFeed_20 : decode cX7_hasRoomForFeed 20 = .ok (.ireturn, 1) := by decide +kernel
theorem dX7_append_0 : decode cX7_append 0 = .ok (.bipush 24, 2) := by decide +kernel
theorem dX7_append_2 : decode cX7_append 2 = .ok (.istore_n 2, 1) := by decide +kernel
theorem dX7_append_3 : decode cX7_append 3 = .ok (.iload_n 2, 1) := by decide +kernel
theorem dX7_append_4 : decode cX7_append 4 = .ok (.ifCond .lt 47, 3) := by decide +kernel
theorem dX7_append_7 : decode cX7_append 7 = .ok (.aload_n 0, 1) := by decide +kernel
theorem dX7_append_8 : decode cX7_append 8 = .ok (.getfield 15, 3) := by decide +kernel
theorem dX7_append_11 : decode cX7_append 11 = .ok (.aload_n 0, 1) := by decide +kernel
theorem dX7_append_12 : decode cX7_append 12 = .ok (.getfield 11, 3) := by decide +kernel
theorem dX7_append_15 : decode cX7_append 15 = .ok (.arraylength, 1) := by decide +kernel
theorem dX7_append_16 : decode cX7_append 16 = .ok (.if_icmp .ge 35, 3) := by decide +kernel
theorem dX7_append_19 : decode cX7_append 19 = .ok (.aload_n 0, 1) := by decide +kernel
theorem dX7_append_20 : decode cX7_append 20 = .ok (.getfield 11, 3) := by decide +kernel
theorem dX7_append_23 : decode cX7_append 23 = .ok (.aload_n 0, 1) := by decide +kernel
theorem dX7_append_24 : decode cX7_append 24 = .ok (.getfield 15, 3) := by decide +kernel
theorem dX7_append_27 : decode cX7_append 27 = .ok (.iload_n 1, 1) := by decide +kernel
theorem dX7_append_28 : decode cX7_append 28 = .ok (.iload_n 2, 1) := by decide +kernel
theorem dX7_append_29 : decode cX7_append 29 = .ok (.iushr, 1) := by decide +kernel
theorem dX7_append_30 : decode cX7_append 30 = .ok (.sipush 255, 3) := by decide +kernel
theorem dX7_append_33 : decode cX7_append 33 = .ok (.iand, 1) := by decide +kernel
theorem dX7_append_34 : decode cX7_append 34 = .ok (.iastore, 1) := by decide +kernel
theorem dX7_append_35 : decode cX7_append 35 = .ok (.aload_n 0, 1) := by decide +kernel
theorem dX7_append_36 : decode cX7_append 36 = .ok (.dup, 1) := by decide +kernel
theorem dX7_append_37 : decode cX7_append 37 = .ok (.getfield 15, 3) := by decide +kernel
theorem dX7_append_40 : decode cX7_append 40 = .ok (.iconst 1, 1) := by decide +kernel
theorem dX7_append_41 : decode cX7_append 41 = .ok (.iadd, 1) := by decide +kernel
theorem dX7_append_42 : decode cX7_append 42 = .ok (.putfield 15, 3) := by decide +kernel
theorem dX7_append_45 : decode cX7_append 45 = .ok (.iinc 2 (-8), 3) := by decide +kernel
theorem dX7_append_48 : decode cX7_append 48 = .ok (.goto (-45), 3) := by decide +kernel
theorem dX7_append_51 : decode cX7_append 51 = .ok (.return_, 1) := by decide +kernel
theorem dX7_keep_0 : decode cX7_keep 0 = .ok (.iload_n 1, 1) := by decide +kernel
theorem dX7_keep_1 : decode cX7_keep 1 = .ok (.ifCond .lt 11, 3) := by decide +kernel
theorem dX7_keep_4 : decode cX7_keep 4 = .ok (.iload_n 1, 1) := by decide +kernel
theorem dX7_keep_5 : decode cX7_keep 5 = .ok (.aload_n 0, 1) := by decide +kernel
theorem dX7_keep_6 : decode cX7_keep 6 = .ok (.getfield 15, 3) := by decide +kernel
theorem dX7_keep_9 : decode cX7_keep 9 = .ok (.if_icmp .le 5, 3) := by decide +kernel
theorem dX7_keep_12 : decode cX7_keep 12 = .ok (.iconst 0, 1) := by decide +kernel
theorem dX7_keep_13 : decode cX7_keep 13 = .ok (.ireturn, 1) := by decide +kernel
theorem dX7_keep_14 : decode cX7_keep 14 = .ok (.aload_n 0, 1) := by decide +kernel
