theorem dX11_warp_9 : decode cX11_warp 9 = .ok (.ldc_w 312, 3) := by decide +kernel
theorem dX11_warp_12 : decode cX11_warp 12 = .ok (.ireturn, 1) := by decide +kernel
theorem dX11_warp_13 : decode cX11_warp 13 = .ok (.iconst 0, 1) := by decide +kernel
theorem dX11_warp_14 : decode cX11_warp 14 = .ok (.istore_n 3, 1) := by decide +kernel
theorem dX11_warp_15 : decode cX11_warp 15 = .ok (.iconst 0, 1) := by decide +kernel
theorem dX11_warp_16 : decode cX11_warp 16 = .ok (.istore 4, 2) := by decide +kernel
theorem dX11_warp_18 : decode cX11_warp 18 = .ok (.iload 4, 2) := by decide +kernel
theorem dX11_warp_20 : decode cX11_warp 20 = .ok (.iload_n 1, 1) := by decide +kernel
theorem dX11_warp_21 : decode cX11_warp 21 = .ok (.if_icmp .ge 109, 3) := by decide +kernel
theorem dX11_warp_24 : decode cX11_warp 24 = .ok (.iconst 0, 1) := by decide +kernel
theorem dX11_warp_25 : decode cX11_warp 25 = .ok (.istore 5, 2) := by decide +kernel
theorem dX11_warp_27 : decode cX11_warp 27 = .ok (.iconst 0, 1) := by decide +kernel
theorem dX11_warp_28 : decode cX11_warp 28 = .ok (.istore 6, 2) := by decide +kernel
theorem dX11_warp_30 : decode cX11_warp 30 = .ok (.iload 6, 2) := by decide +kernel
theorem dX11_warp_32 : decode cX11_warp 32 = .ok (.iload_n 1, 1) := by decide +kernel
theorem dX11_warp_33 : decode cX11_warp 33 = .ok (.if_icmp .ge 60, 3) := by decide +kernel
theorem dX11_warp_36 : decode cX11_warp 36 = .ok (.iload 5, 2) := by decide +kernel
theorem dX11_warp_38 : decode cX11_warp 38 = .ok (.iload 6, 2) := by decide +kernel
theorem dX11_warp_40 : decode cX11_warp 40 = .ok (.iload 4, 2) := by decide +kernel
theorem dX11_warp_42 : decode cX11_warp 42 = .ok (.if_icmp .ge 18, 3) := by decide +kernel
theorem dX11_warp_45 : decode cX11_warp 45 = .ok (.aload_n 0, 1) := by decide +kernel
theorem dX11_warp_46 : decode cX11_warp 46 = .ok (.getfield 84, 3) := by decide +kernel
theorem dX11_warp_49 : decode cX11_warp 49 = .ok (.aload_n 0, 1) := by decide +kernel
theorem dX11_warp_50 : decode cX11_warp 50 = .ok (.getfield 93, 3) := by decide +kernel
theorem dX11_warp_53 : decode cX11_warp 53 = .ok (.iload 6, 2) := by decide +kernel
theorem dX11_warp_55 : decode cX11_warp 55 = .ok (.iaload, 1) := by decide +kernel
theorem dX11_warp_56 : decode cX11_warp 56 = .ok (.iaload, 1) := by decide +kernel
theorem dX11_warp_57 : decode cX11_warp 57 = .ok (.goto 27, 3) := by decide +kernel
theorem dX11_warp_60 : decode cX11_warp 60 = .ok (.iload 6, 2) := by decide +kernel
theorem dX11_warp_62 : decode cX11_warp 62 = .ok (.iload 4, 2) := by decide +kernel
theorem dX11_warp_64 : decode cX11_warp 64 = .ok (.if_icmp .le 19, 3) := by decide +kernel
theorem dX11_warp_67 : decode cX11_warp 67 = .ok (.aload_n 0, 1) := by decide +kernel
theorem dX11_warp_68 : decode cX11_warp 68 = .ok (.getfield 84, 3) := by decide +kernel
theorem dX11_warp_71 : decode cX11_warp 71 = .ok (.aload_n 0, 1) := by decide +kernel
theorem dX11_warp_72 : decode cX11_warp 72 = .ok (.getfield 93, 3) := by decide +kernel
theorem dX11_warp_75 : decode cX11_warp 75 = .ok (.iload 6, 2) := by decide +kernel
theorem dX11_warp_77 : decode cX11_warp 77 = .ok (.iaload, 1) := by decide +kernel
theorem dX11_warp_78 : decode cX11_warp 78 = .ok (.iaload, 1) := by decide +kernel
theorem dX11_warp_79 : decode cX11_warp 79 = .ok (.ineg, 1) := by decide +kernel
theorem dX11_warp_80 : decode cX11_warp 80 = .ok (.goto 4, 3) := by decide +kernel
theorem dX11_warp_83 : decode cX11_warp 83 = .ok (.iconst 0, 1) := by decide +kernel
theorem dX11_warp_84 : decode cX11_warp 84 = .ok (.iadd, 1) := by decide +kernel
theorem dX11_warp_85 : decode cX11_warp 85 = .ok (.istore 5, 2) := by decide +kernel
theorem dX11_warp_87 : decode cX11_warp 87 = .ok (.iinc 6 1, 3) := by decide +kernel
theorem dX11_warp_90 : decode cX11_warp 90 = .ok (.goto (-60), 3) := by decide +kernel
theorem dX11_warp_93 : decode cX11_warp 93 = .ok (.iload_n 3, 1) := by decide +kernel
theorem dX11_warp_94 : decode cX11_warp 94 = .ok (.iload 4, 2) := by decide +kernel
theorem dX11_warp_96 : decode cX11_warp 96 = .ok (.iconst 2, 1) := by decide +kernel
theorem dX11_warp_97 : decode cX11_warp 97 = .ok (.irem, 1) := by decide +kernel
theorem dX11_warp_98 : decode cX11_warp 98 = .ok (.ifCond .ne 7, 3) := by decide +kernel
theorem dX11_warp_101 : decode cX11_warp 101 = .ok (.iconst 1, 1) := by decide +kernel
theorem dX11_warp_102 : decode cX11_warp 102 = .ok (.goto 4, 3) := by decide +kernel
theorem dX11_warp_105 : decode cX11_warp 105 = .ok (.iconst (-1), 1) := by decide +kernel
theorem dX11_warp_106 : decode cX11_warp 106 = .ok (.aload_n 0, 1) := by decide +kernel
theorem dX11_warp_107 : decode cX11_warp 107 = .ok (.getfield 84, 3) := by decide +kernel
theorem dX11_warp_110 : decode cX11_warp 110 = .ok (.aload_n 0, 1) := by decide +kernel
theorem dX11_warp_111 : decode cX11_warp 111 = .ok (.getfield 93, 3) := by decide +kernel
theorem dX11_warp_114 : decode cX11_warp 114 = .ok (.iload 4, 2) := by decide +kernel
theorem dX11_warp_116 : decode cX11_warp 116 = .ok (.iaload, 1) := by decide +kernel
theorem dX11_warp_117 : decode cX11_warp 117 = .ok (.iaload, 1) := by decide +kernel
theorem dX11_warp_118 : decode cX11_warp 118 = .ok (.imul, 1) := by decide +kernel
theorem dX11_warp_119 : decode cX11_warp 119 = .ok (.iload 5, 2) := by decide +kernel
theorem dX11_warp_121 : decode cX11_warp 121 = .ok (.imul, 1) := by decide +kernel
theorem dX11_warp_122 : decode cX11_warp 122 = .ok (.iadd, 1) := by decide +kernel
theorem dX11_warp_123 : decode cX11_warp 123 = .ok (.istore_n 3, 1) := by decide +kernel
theorem dX11_warp_124 : decode cX11_warp 124 = .ok (.iinc 4 1, 3) := by decide +kernel
theorem dX11_warp_127 : decode cX11_warp 127 = .ok (.goto (-109), 3) := by decide +kernel
theorem dX11_warp_130 : decode cX11_warp 130 = .ok (.iload_n 3, 1) := by decide +kernel
theorem dX11_warp_131 : decode cX11_warp 131 = .ok (.ireturn, 1) := by decide +kernel
theorem dX11_best_0 : decode cX11_best 0 = .ok (.iload_n 1, 1) := by decide +kernel
theorem dX11_best_1 : decode cX11_best 1 = .ok (.iconst 1, 1) := by decide +kernel
theorem dX11_best_2 : decode cX11_best 2 = .ok (.if_icmp .lt 15, 3) := by decide +kernel
theorem dX11_best_5 : decode cX11_best 5 = .ok (.iload_n 1, 1) := by decide +kernel
theorem dX11_best_6 : decode cX11_best 6 = .ok (.bipush 9, 2) := by decide +kernel
theorem dX11_best_8 : decode cX11_best 8 = .ok (.if_icmp .gt 9, 3) := by decide +kernel
theorem dX11_best_11 : decode cX11_best 11 = .ok (.iload_n 1, 1) := by decide +kernel
theorem dX11_best_12 : decode cX11_best 12 = .ok (.iconst 2, 1) := by decide +kernel
theorem dX11_best_13 : decode cX11_best 13 = .ok (.irem, 1) := by decide +kernel
theorem dX11_best_14 : decode cX11_best 14 = .ok (.ifCond .ne 5, 3) := by decide +kernel
theorem dX11_best_17 : decode cX11_best 17 = .ok (.iconst (-1), 1) := by decide +kernel
theorem dX11_best_18 : decode cX11_best 18 = .ok (.ireturn, 1) := by decide +kernel
theorem dX11_best_19 : decode cX11_best 19 = .ok (.iload_n 1, 1) := by decide +kernel
theorem dX11_best_20 : decode cX11_best 20 = .ok (.iconst 1, 1) := by decide +kernel
theorem dX11_best_21 : decode cX11_best 21 = .ok (.iadd, 1) := by decide +kernel
theorem dX11_best_22 : decode cX11_best 22 = .ok (.iconst 2, 1) := by decide +kernel
theorem dX11_best_23 : decode cX11_best 23 = .ok (.idiv, 1) := by decide +kernel
theorem dX11_best_24 : decode cX11_best 24 = .ok (.istore 4, 2) := by decide +kernel
theorem dX11_best_26 : decode cX11_best 26 = .ok (.iconst 1, 1) := by decide +kernel
theorem dX11_best_27 : decode cX11_best 27 = .ok (.istore 5, 2) := by decide +kernel
theorem dX11_best_29 : decode cX11_best 29 = .ok (.iconst 0, 1) := by decide +kernel
theorem dX11_best_30 : decode cX11_best 30 = .ok (.istore 6, 2) := by decide +kernel
theorem dX11_best_32 : decode cX11_best 32 = .ok (.iload 6, 2) := by decide +kernel
theorem dX11_best_34 : decode cX11_best 34 = .ok (.iload 4, 2) := by decide +kernel
theorem dX11_best_36 : decode cX11_best 36 = .ok (.if_icmp .ge 16, 3) := by decide +kernel
theorem dX11_best_39 : decode cX11_best 39 = .ok (.iload 5, 2) := by decide +kernel
theorem dX11_best_41 : decode cX11_best 41 = .ok (.bipush 6, 2) := by decide +kernel
theorem dX11_best_43 : decode cX11_best 43 = .ok (.imul, 1) := by decide +kernel
theorem dX11_best_44 : decode cX11_best 44 = .ok (.istore 5, 2) := by decide +kernel
theorem dX11_best_46 : decode cX11_best 46 = .ok (.iinc 6 1, 3) := by decide +kernel
theorem dX11_best_49 : decode cX11_best 49 = .ok (.goto (-17), 3) := by decide +kernel
theorem dX11_best_52 : decode cX11_best 52 = .ok (.iconst (-1), 1) := by decide +kernel
theorem dX11_best_53 : decode cX11_best 53 = .ok (.istore 6, 2) := by decide +kernel
theorem dX11_best_55 : decode cX11_best 55 = .ok (.iconst 0, 1) := by decide +kernel
theorem dX11_best_56 : decode cX11_best 56 = .ok (.istore 7, 2) := by decide +kernel
theorem dX11_best_58 : decode cX11_best 58 = .ok (.iconst 0, 1) := by decide +kernel
theorem dX11_best_59 : decode cX11_best 59 = .ok (.istore 8, 2) := by decide +kernel
theorem dX11_best_61 : decode cX11_best 61 = .ok (.iload 8, 2) := by decide +kernel
theorem dX11_best_63 : decode cX11_best 63 = .ok (.iload 5, 2) := by decide +kernel
theorem dX11_best_65 : decode cX11_best 65 = .ok (.if_icmp .ge 161, 3) := by decide +kernel
theorem dX11_best_68 : decode cX11_best 68 = .ok (.iload 8, 2) := by decide +kernel
theorem dX11_best_70 : decode cX11_best 70 = .ok (.istore 9, 2) := by decide +kernel
theorem dX11_best_72 : decode cX11_best 72 = .ok (.iload 4, 2) := by decide +kernel
theorem dX11_best_74 : decode cX11_best 74 = .ok (.iconst 1, 1) := by decide +kernel
theorem dX11_best_75 : decode cX11_best 75 = .ok (.isub, 1) := by decide +kernel
theorem dX11_best_76 : decode cX11_best 76 = .ok (.istore 10, 2) := by decide +kernel
theorem dX11_best_78 : decode cX11_best 78 = .ok (.iload 10, 2) := by decide +kernel
theorem dX11_best_80 : decode cX11_best 80 = .ok (.ifCond .lt 44, 3) := by decide +kernel
theorem dX11_best_83 : decode cX11_best 83 = .ok (.aload_n 0, 1) := by decide +kernel
theorem dX11_best_84 : decode cX11_best 84 = .ok (.getfield 93, 3) := by decide +kernel
theorem dX11_best_87 : decode cX11_best 87 = .ok (.iload 10, 2) := by decide +kernel
theorem dX11_best_89 : decode cX11_best 89 = .ok (.iload 9, 2) := by decide +kernel
theorem dX11_best_91 : decode cX11_best 91 = .ok (.bipush 6, 2) := by decide +kernel
theorem dX11_best_93 : decode cX11_best 93 = .ok (.irem, 1) := by decide +kernel
theorem dX11_best_94 : decode cX11_best 94 = .ok (.iastore, 1) := by decide +kernel
theorem dX11_best_95 : decode cX11_best 95 = .ok (.aload_n 0, 1) := by decide +kernel
theorem dX11_best_96 : decode cX11_best 96 = .ok (.getfield 93, 3) := by decide +kernel
theorem dX11_best_99 : decode cX11_best 99 = .ok (.iload_n 1, 1) := by decide +kernel
theorem dX11_best_100 : decode cX11_best 100 = .ok (.iconst 1, 1) := by decide +kernel
theorem dX11_best_101 : decode cX11_best 101 = .ok (.isub, 1) := by decide +kernel
theorem dX11_best_102 : decode cX11_best 102 = .ok (.iload 10, 2) := by decide +kernel
theorem dX11_best_104 : decode cX11_best 104 = .ok (.isub, 1) := by decide +kernel
theorem dX11_best_105 : decode cX11_best 105 = .ok (.iload 9, 2) := by decide +kernel
theorem dX11_best_107 : decode cX11_best 107 = .ok (.bipush 6, 2) := by decide +kernel
theorem dX11_best_109 : decode cX11_best 109 = .ok (.irem, 1) := by decide +kernel
theorem dX11_best_110 : decode cX11_best 110 = .ok (.iastore, 1) := by decide +kernel
theorem dX11_best_111 : decode cX11_best 111 = .ok (.iload 9, 2) := by decide +kernel
theorem dX11_best_113 : decode cX11_best 113 = .ok (.bipush 6, 2) := by decide +kernel
theorem dX11_best_115 : decode cX11_best 115 = .ok (.idiv, 1) := by decide +kernel
theorem dX11_best_116 : decode cX11_best 116 = .ok (.istore 9, 2) := by decide +kernel
theorem dX11_best_118 : decode cX11_best 118 = .ok (.iinc 10 (-1), 3) := by decide +kernel
theorem dX11_best_121 : decode cX11_best 121 = .ok (.goto (-43), 3) := by decide +kernel
theorem dX11_best_124 : decode cX11_best 124 = .ok (.aload_n 0, 1) := by decide +kernel
theorem dX11_best_125 : decode cX11_best 125 = .ok (.iload_n 1, 1) := by decide +kernel
theorem dX11_best_126 : decode cX11_best 126 = .ok (.iconst 2, 1) := by decide +kernel
theorem dX11_best_127 : decode cX11_best 127 = .ok (.invokevirtual 309, 3) := by decide +kernel
theorem dX11_best_130 : decode cX11_best 130 = .ok (.istore 10, 2) := by decide +kernel
theorem dX11_best_132 : decode cX11_best 132 = .ok (.aload_n 0, 1) := by decide +kernel
theorem dX11_best_133 : decode cX11_best 133 = .ok (.getfield 96, 3) := by decide +kernel
theorem dX11_best_136 : decode cX11_best 136 = .ok (.aload_n 0, 1) := by decide +kernel
theorem dX11_best_137 : decode cX11_best 137 = .ok (.getfield 93, 3) := by decide +kernel
theorem dX11_best_140 : decode cX11_best 140 = .ok (.iconst 0, 1) := by decide +kernel
theorem dX11_best_141 : decode cX11_best 141 = .ok (.iaload, 1) := by decide +kernel
theorem dX11_best_142 : decode cX11_best 142 = .ok (.baload, 1) := by decide +kernel
theorem dX11_best_143 : decode cX11_best 143 = .ok (.ifCond .eq 77, 3) := by decide +kernel
theorem dX11_best_146 : decode cX11_best 146 = .ok (.aload_n 0, 1) := by decide +kernel
theorem dX11_best_147 : decode cX11_best 147 = .ok (.iload_n 1, 1) := by decide +kernel
theorem dX11_best_148 : decode cX11_best 148 = .ok (.iconst 0, 1) := by decide +kernel
theorem dX11_best_149 : decode cX11_best 149 = .ok (.invokevirtual 309, 3) := by decide +kernel
theorem dX11_best_152 : decode cX11_best 152 = .ok (.iload_n 2, 1) := by decide +kernel
theorem dX11_best_153 : decode cX11_best 153 = .ok (.if_icmp .lt 67, 3) := by decide +kernel
theorem dX11_best_156 : decode cX11_best 156 = .ok (.aload_n 0, 1) := by decide +kernel
theorem dX11_best_157 : decode cX11_best 157 = .ok (.iload_n 1, 1) := by decide +kernel
theorem dX11_best_158 : decode cX11_best 158 = .ok (.iconst 1, 1) := by decide +kernel
theorem dX11_best_159 : decode cX11_best 159 = .ok (.invokevirtual 309, 3) := by decide +kernel
theorem dX11_best_162 : decode cX11_best 162 = .ok (.iload_n 3, 1) := by decide +kernel
theorem dX11_best_163 : decode cX11_best 163 = .ok (.if_icmp .gt 57, 3) := by decide +kernel
theorem dX11_best_166 : decode cX11_best 166 = .ok (.iload 6, 2) := by decide +kernel
theorem dX11_best_168 : decode cX11_best 168 = .ok (.ifCond .lt 13, 3) := by decide +kernel
theorem dX11_best_171 : decode cX11_best 171 = .ok (.iload 10, 2) := by decide +kernel
theorem dX11_best_173 : decode cX11_best 173 = .ok (.iload 7, 2) := by decide +kernel
theorem dX11_best_175 : decode cX11_best 175 = .ok (.if_icmp .lt 6, 3) := by decide +kernel
theorem dX11_best_178 : decode cX11_best 178 = .ok (.goto 42, 3) := by decide +kernel
theorem dX11_best_181 : decode cX11_best 181 = .ok (.iload 10, 2) := by decide +kernel
theorem dX11_best_183 : decode cX11_best 183 = .ok (.istore 7, 2) := by decide +kernel
theorem dX11_best_185 : decode cX11_best 185 = .ok (.iconst 0, 1) := by decide +kernel
theorem dX11_best_186 : decode cX11_best 186 = .ok (.istore 6, 2) := by decide +kernel
theorem dX11_best_188 : decode cX11_best 188 = .ok (.iconst 0, 1) := by decide +kernel
theorem dX11_best_189 : decode cX11_best 189 = .ok (.istore 11, 2) := by decide +kernel
theorem dX11_best_191 : decode cX11_best 191 = .ok (.iload 11, 2) := by decide +kernel
theorem dX11_best_193 : decode cX11_best 193 = .ok (.iload_n 1, 1) := by decide +kernel
theorem dX11_best_194 : decode cX11_best 194 = .ok (.if_icmp .ge 26, 3) := by decide +kernel
theorem dX11_best_197 : decode cX11_best 197 = .ok (.iload 6, 2) := by decide +kernel
theorem dX11_best_199 : decode cX11_best 199 = .ok (.aload_n 0, 1) := by decide +kernel
theorem dX11_best_200 : decode cX11_best 200 = .ok (.getfield 93, 3) := by decide +kernel
theorem dX11_best_203 : decode cX11_best 203 = .ok (.iload 11, 2) := by decide +kernel
theorem dX11_best_205 : decode cX11_best 205 = .ok (.iaload, 1) := by decide +kernel
theorem dX11_best_206 : decode cX11_best 206 = .ok (.iconst 3, 1) := by decide +kernel
theorem dX11_best_207 : decode cX11_best 207 = .ok (.iload 11, 2) := by decide +kernel
theorem dX11_best_209 : decode cX11_best 209 = .ok (.imul, 1) := by decide +kernel
theorem dX11_best_210 : decode cX11_best 210 = .ok (.ishl, 1) := by decide +kernel
theorem dX11_best_211 : decode cX11_best 211 = .ok (.ior, 1) := by decide +kernel
theorem dX11_best_212 : decode cX11_best 212 = .ok (.istore 6, 2) := by decide +kernel
theorem dX11_best_214 : decode cX11_best 214 = .ok (.iinc 11 1, 3) := by decide +kernel
theorem dX11_best_217 : decode cX11_best 217 = .ok (.goto (-26), 3) := by decide +kernel
theorem dX11_best_220 : decode cX11_best 220 = .ok (.iinc 8 1, 3) := by decide +kernel
theorem dX11_best_223 : decode cX11_best 223 = .ok (.goto (-162), 3) := by decide +kernel
theorem dX11_best_226 : decode cX11_best 226 = .ok (.iload 6, 2) := by decide +kernel
theorem dX11_best_228 : decode cX11_best 228 = .ok (.ireturn, 1) := by decide +kernel
theorem dX11_press_0 : decode cX11_press 0 = .ok (.iload_n 1, 1) := by decide +kernel
theorem dX11_press_1 : decode cX11_press 1 = .ok (.iconst 1, 1) := by decide +kernel
theorem dX11_press_2 : decode cX11_press 2 = .ok (.if_icmp .lt 43, 3) := by decide +kernel
theorem dX11_press_5 : decode cX11_press 5 = .ok (.iload_n 1, 1) := by decide +kernel
theorem dX11_press_6 : decode cX11_press 6 = .ok (.bipush 10, 2) := by decide +kernel
theorem dX11_press_8 : decode cX11_press 8 = .ok (.if_icmp .gt 37, 3) := by decide +kernel
theorem dX11_press_11 : decode cX11_press 11 = .ok (.iload_n 2, 1) := by decide +kernel
theorem dX11_press_12 : decode cX11_press 12 = .ok (.ifCond .lt 33, 3) := by decide +kernel
theorem dX11_press_15 : decode cX11_press 15 = .ok (.iload_n 2, 1) := by decide +kernel
theorem dX11_press_16 : decode cX11_press 16 = .ok (.bipush 100, 2) := by decide +kernel
theorem dX11_press_18 : decode cX11_press 18 = .ok (.if_icmp .gt 27, 3) := by decide +kernel
theorem dX11_press_21 : decode cX11_press 21 = .ok (.iload_n 3, 1) := by decide +kernel
theorem dX11_press_22 : decode cX11_press 22 = .ok (.ifCond .lt 23, 3) := by decide +kernel
theorem dX11_press_25 : decode cX11_press 25 = .ok (.iload_n 3, 1) := by decide +kernel
theorem dX11_press_26 : decode cX11_press 26 = .ok (.bipush 10, 2) := by decide +kernel
theorem dX11_press_28 : decode cX11_press 28 = .ok (.if_icmp .gt 17, 3) := by decide +kernel
theorem dX11_press_31 : decode cX11_press 31 = .ok (.iload 4, 2) := by decide +kernel
theorem dX11_press_33 : decode cX11_press 33 = .ok (.iconst 1, 1) := by decide +kernel
theorem dX11_press_34 : decode cX11_press 34 = .ok (.if_icmp .lt 11, 3) := by decide +kernel
theorem dX11_press_37 : decode cX11_press 37 = .ok (.iload 4, 2) := by decide +kernel
theorem dX11_press_39 : decode cX11_press 39 = .ok (.sipush 1000, 3) := by decide +kernel
theorem dX11_press_42 : decode cX11_press 42 = .ok (.if_icmp .le 5, 3) := by decide +kernel
theorem dX11_press_45 : decode cX11_press 45 = .ok (.iconst 0, 1) := by decide +kernel
theorem dX11_press_46 : decode cX11_press 46 = .ok (.ireturn, 1) := by decide +kernel
theorem dX11_press_47 : decode cX11_press 47 = .ok (.aload_n 0, 1) := by decide +kernel
theorem dX11_press_48 : decode cX11_press 48 = .ok (.iload_n 1, 1) := by decide +kernel
theorem dX11_press_49 : decode cX11_press 49 = .ok (.putfield 99, 3) := by decide +kernel
theorem dX11_press_52 : decode cX11_press 52 = .ok (.aload_n 0, 1) := by decide +kernel
theorem dX11_press_53 : decode cX11_press 53 = .ok (.iload_n 2, 1) := by decide +kernel
theorem dX11_press_54 : decode cX11_press 54 = .ok (.putfield 102, 3) := by decide +kernel
theorem dX11_press_57 : decode cX11_press 57 = .ok (.aload_n 0, 1) := by decide +kernel
theorem dX11_press_58 : decode cX11_press 58 = .ok (.iload_n 3, 1) := by decide +kernel
theorem dX11_press_59 : decode cX11_press 59 = .ok (.putfield 105, 3) := by decide +kernel
theorem dX11_press_62 : decode cX11_press 62 = .ok (.aload_n 0, 1) := by decide +kernel
theorem dX11_press_63 : decode cX11_press 63 = .ok (.iload 4, 2) := by decide +kernel
theorem dX11_press_65 : decode cX11_press 65 = .ok (.putfield 108, 3) := by decide +kernel
theorem dX11_press_68 : decode cX11_press 68 = .ok (.iconst 1, 1) := by decide +kernel
theorem dX11_press_69 : decode cX11_press 69 = .ok (.ireturn, 1) := by decide +kernel
theorem dX11_glue_0 : decode cX11_glue 0 = .ok (.aload_n 0, 1) := by decide +kernel
theorem dX11_glue_1 : decode cX11_glue 1 = .ok (.getfield 313, 3) := by decide +kernel
theorem dX11_glue_4 : decode cX11_glue 4 = .ok (.bipush 10, 2) := by decide +kernel
theorem dX11_glue_6 : decode cX11_glue 6 = .ok (.if_icmp .eq 26, 3) := by decide +kernel
theorem dX11_glue_9 : decode cX11_glue 9 = .ok (.iload_n 1, 1) := by decide +kernel
theorem dX11_glue_10 : decode cX11_glue 10 = .ok (.iconst 1, 1) := by decide +kernel
theorem dX11_glue_11 : decode cX11_glue 11 = .ok (.if_icmp .lt 21, 3) := by decide +kernel
theorem dX11_glue_14 : decode cX11_glue 14 = .ok (.iload_n 1, 1) := by decide +kernel
theorem dX11_glue_15 : decode cX11_glue 15 = .ok (.sipush 500, 3) := by decide +kernel
theorem dX11_glue_18 : decode cX11_glue 18 = .ok (.if_icmp .gt 14, 3) := by decide +kernel
theorem dX11_glue_21 : decode cX11_glue 21 = .ok (.iload_n 2, 1) := by decide +kernel
theorem dX11_glue_22 : decode cX11_glue 22 = .ok (.ifCond .lt 10, 3) := by decide +kernel
theorem dX11_glue_25 : decode cX11_glue 25 = .ok (.iload_n 2, 1) := by decide +kernel
theorem dX11_glue_26 : decode cX11_glue 26 = .ok (.sipush 10000, 3) := by decide +kernel
theorem dX11_glue_29 : decode cX11_glue 29 = .ok (.if_icmp .le 5, 3) := by decide +kernel
theorem dX11_glue_32 : decode cX11_glue 32 = .ok (.iconst (-1), 1) := by decide +kernel
theorem dX11_glue_33 : decode cX11_glue 33 = .ok (.ireturn, 1) := by decide +kernel
theorem dX11_glue_34 : decode cX11_glue 34 = .ok (.aload_n 0, 1) := by decide +kernel
theorem dX11_glue_35 : decode cX11_glue 35 = .ok (.getfield 111, 3) := by decide +kernel
theorem dX11_glue_38 : decode cX11_glue 38 = .ok (.aload_n 0, 1) := by decide +kernel
theorem dX11_glue_39 : decode cX11_glue 39 = .ok (.getfield 313, 3) := by decide +kernel
theorem dX11_glue_42 : decode cX11_glue 42 = .ok (.iload_n 1, 1) := by decide +kernel
theorem dX11_glue_43 : decode cX11_glue 43 = .ok (.iastore, 1) := by decide +kernel
theorem dX11_glue_44 : decode cX11_glue 44 = .ok (.aload_n 0, 1) := by decide +kernel
theorem dX11_glue_45 : decode cX11_glue 45 = .ok (.getfield 114, 3) := by decide +kernel
theorem dX11_glue_48 : decode cX11_glue 48 = .ok (.aload_n 0, 1) := by decide +kernel
theorem dX11_glue_49 : decode cX11_glue 49 = .ok (.getfield 313, 3) := by decide +kernel
theorem dX11_glue_52 : decode cX11_glue 52 = .ok (.iload_n 2, 1) := by decide +kernel
theorem dX11_glue_53 : decode cX11_glue 53 = .ok (.iastore, 1) := by decide +kernel
theorem dX11_glue_54 : decode cX11_glue 54 = .ok (.aload_n 0, 1) := by decide +kernel
theorem dX11_glue_55 : decode cX11_glue 55 = .ok (.dup, 1) := by decide +kernel
theorem dX11_glue_56 : decode cX11_glue 56 = .ok (.getfield 313, 3) := by decide +kernel
theorem dX11_glue_59 : decode cX11_glue 59 = .ok (.iconst 1, 1) := by decide +kernel
theorem dX11_glue_60 : decode cX11_glue 60 = .ok (.iadd, 1) := by decide +kernel
theorem dX11_glue_61 : decode cX11_glue 61 = .ok (.putfield 313, 3) := by decide +kernel
theorem dX11_glue_64 : decode cX11_glue 64 = .ok (.aload_n 0, 1) := by decide +kernel
theorem dX11_glue_65 : decode cX11_glue 65 = .ok (.getfield 313, 3) := by decide +kernel
theorem dX11_glue_68 : decode cX11_glue 68 = .ok (.iconst 1, 1) := by decide +kernel
theorem dX11_glue_69 : decode cX11_glue 69 = .ok (.isub, 1) := by decide +kernel
theorem dX11_glue_70 : decode cX11_glue 70 = .ok (.ireturn, 1) := by decide +kernel
theorem dX11_drop_0 : decode cX11_drop 0 = .ok (.aload_n 0, 1) := by decide +kernel
theorem dX11_drop_1 : decode cX11_drop 1 = .ok (.getfield 313, 3) := by decide +kernel
theorem dX11_drop_4 : decode cX11_drop 4 = .ok (.ifCond .ne 5, 3) := by decide +kernel
theorem dX11_drop_7 : decode cX11_drop 7 = .ok (.iconst 0, 1) := by decide +kernel
theorem dX11_drop_8 : decode cX11_drop 8 = .ok (.ireturn, 1) := by decide +kernel
theorem dX11_drop_9 : decode cX11_drop 9 = .ok (.aload_n 0, 1) := by decide +kernel
theorem dX11_drop_10 : decode cX11_drop 10 = .ok (.dup, 1) := by decide +kernel
theorem dX11_drop_11 : decode cX11_drop 11 = .ok (.getfield 313, 3) := by decide +kernel
theorem dX11_drop_14 : decode cX11_drop 14 = .ok (.iconst 1, 1) := by decide +kernel
theorem dX11_drop_15 : decode cX11_drop 15 = .ok (.isub, 1) := by decide +kernel
theorem dX11_drop_16 : decode cX11_drop 16 = .ok (.putfield 313, 3) := by decide +kernel
theorem dX11_drop_19 : decode cX11_drop 19 = .ok (.iconst 1, 1) := by decide +kernel
theorem dX11_drop_20 : decode cX11_drop 20 = .ok (.ireturn, 1) := by decide +kernel
theorem dX11_many_0 : decode cX11_many 0 = .ok (.iconst 0, 1) := by decide +kernel
theorem dX11_many_1 : decode cX11_many 1 = .ok (.istore_n 1, 1) := by decide +kernel
theorem dX11_many_2 : decode cX11_many 2 = .ok (.iconst 0, 1) := by decide +kernel
theorem dX11_many_3 : decode cX11_many 3 = .ok (.istore_n 2, 1) := by decide +kernel
theorem dX11_many_4 : decode cX11_many 4 = .ok (.iload_n 2, 1) := by decide +kernel
theorem dX11_many_5 : decode cX11_many 5 = .ok (.bipush 10, 2) := by decide +kernel
theorem dX11_many_7 : decode cX11_many 7 = .ok (.if_icmp .ge 17, 3) := by decide +kernel
theorem dX11_many_10 : decode cX11_many 10 = .ok (.iload_n 1, 1) := by decide +kernel
theorem dX11_many_11 : decode cX11_many 11 = .ok (.iload_n 0, 1) := by decide +kernel
theorem dX11_many_12 : decode cX11_many 12 = .ok (.iload_n 2, 1) := by decide +kernel
theorem dX11_many_13 : decode cX11_many 13 = .ok (.ishr, 1) := by decide +kernel
theorem dX11_many_14 : decode cX11_many 14 = .ok (.iconst 1, 1) := by decide +kernel
theorem dX11_many_15 : decode cX11_many 15 = .ok (.iand, 1) := by decide +kernel
theorem dX11_many_16 : decode cX11_many 16 = .ok (.iadd, 1) := by decide +kernel
theorem dX11_many_17 : decode cX11_many 17 = .ok (.istore_n 1, 1) := by decide +kernel
theorem dX11_many_18 : decode cX11_many 18 = .ok (.iinc 2 1, 3) := by decide +kernel
theorem dX11_many_21 : decode cX11_many 21 = .ok (.goto (-17), 3) := by decide +kernel
theorem dX11_many_24 : decode cX11_many 24 = .ok (.iload_n 1, 1) := by decide +kernel
theorem dX11_many_25 : decode cX11_many 25 = .ok (.ireturn, 1) := by decide +kernel
theorem dX11_putIn_0 : decode cX11_putIn 0 = .ok (.ldc_w 316, 3) := by decide +kernel
theorem dX11_putIn_3 : decode cX11_putIn 3 = .ok (.istore_n 3, 1) := by decide +kernel
theorem dX11_putIn_4 : decode cX11_putIn 4 = .ok (.iconst 0, 1) := by decide +kernel
theorem dX11_putIn_5 : decode cX11_putIn 5 = .ok (.istore 4, 2) := by decide +kernel
theorem dX11_putIn_7 : decode cX11_putIn 7 = .ok (.iconst (-1), 1) := by decide +kernel
theorem dX11_putIn_8 : decode cX11_putIn 8 = .ok (.istore 5, 2) := by decide +kernel
theorem dX11_putIn_10 : decode cX11_putIn 10 = .ok (.iload_n 1, 1) := by decide +kernel
theorem dX11_putIn_11 : decode cX11_putIn 11 = .ok (.invokestatic 317, 3) := by decide +kernel
theorem dX11_putIn_14 : decode cX11_putIn 14 = .ok (.aload_n 0, 1) := by decide +kernel
theorem dX11_putIn_15 : decode cX11_putIn 15 = .ok (.getfield 99, 3) := by decide +kernel
theorem dX11_putIn_18 : decode cX11_putIn 18 = .ok (.if_icmp .gt 7, 3) := by decide +kernel
theorem dX11_putIn_21 : decode cX11_putIn 21 = .ok (.iconst 1, 1) := by decide +kernel
theorem dX11_putIn_22 : decode cX11_putIn 22 = .ok (.goto 4, 3) := by decide +kernel
theorem dX11_putIn_25 : decode cX11_putIn 25 = .ok (.iconst 0, 1) := by decide +kernel
theorem dX11_putIn_26 : decode cX11_putIn 26 = .ok (.istore 6, 2) := by decide +kernel
theorem dX11_putIn_28 : decode cX11_putIn 28 = .ok (.iconst 0, 1) := by decide +kernel
theorem dX11_putIn_29 : decode cX11_putIn 29 = .ok (.istore 7, 2) := by decide +kernel
theorem dX11_putIn_31 : decode cX11_putIn 31 = .ok (.iload 7, 2) := by decide +kernel
theorem dX11_putIn_33 : decode cX11_putIn 33 = .ok (.aload_n 0, 1) := by decide +kernel
theorem dX11_putIn_34 : decode cX11_putIn 34 = .ok (.getfield 313, 3) := by decide +kernel
theorem dX11_putIn_37 : decode cX11_putIn 37 = .ok (.if_icmp .ge 108, 3) := by decide +kernel
theorem dX11_putIn_40 : decode cX11_putIn 40 = .ok (.iload_n 1, 1) := by decide +kernel
theorem dX11_putIn_41 : decode cX11_putIn 41 = .ok (.iload 7, 2) := by decide +kernel
theorem dX11_putIn_43 : decode cX11_putIn 43 = .ok (.ishr, 1) := by decide +kernel
theorem dX11_putIn_44 : decode cX11_putIn 44 = .ok (.iconst 1, 1) := by decide +kernel
theorem dX11_putIn_45 : decode cX11_putIn 45 = .ok (.iand, 1) := by decide +kernel
theorem dX11_putIn_46 : decode cX11_putIn 46 = .ok (.ifCond .ne 6, 3) := by decide +kernel
theorem dX11_putIn_49 : decode cX11_putIn 49 = .ok (.goto 90, 3) := by decide +kernel
theorem dX11_putIn_52 : decode cX11_putIn 52 = .ok (.iload 6, 2) := by decide +kernel
theorem dX11_putIn_54 : decode cX11_putIn 54 = .ok (.ifCond .eq 24, 3) := by decide +kernel
theorem dX11_putIn_57 : decode cX11_putIn 57 = .ok (.iload 5, 2) := by decide +kernel
theorem dX11_putIn_59 : decode cX11_putIn 59 = .ok (.ifCond .lt 15, 3) := by decide +kernel
theorem dX11_putIn_62 : decode cX11_putIn 62 = .ok (.iload 5, 2) := by decide +kernel
theorem dX11_putIn_64 : decode cX11_putIn 64 = .ok (.aload_n 0, 1) := by decide +kernel
theorem dX11_putIn_65 : decode cX11_putIn 65 = .ok (.getfield 111, 3) := by decide +kernel
theorem dX11_putIn_68 : decode cX11_putIn 68 = .ok (.iload 7, 2) := by decide +kernel
theorem dX11_putIn_70 : decode cX11_putIn 70 = .ok (.iaload, 1) := by decide +kernel
theorem dX11_putIn_71 : decode cX11_putIn 71 = .ok (.if_icmp .ne 7, 3) := by decide +kernel
theorem dX11_putIn_74 : decode cX11_putIn 74 = .ok (.iconst 1, 1) := by decide +kernel
theorem dX11_putIn_75 : decode cX11_putIn 75 = .ok (.goto 4, 3) := by decide +kernel
theorem dX11_putIn_78 : decode cX11_putIn 78 = .ok (.iconst 0, 1) := by decide +kernel
theorem dX11_putIn_79 : decode cX11_putIn 79 = .ok (.istore 6, 2) := by decide +kernel
theorem dX11_putIn_81 : decode cX11_putIn 81 = .ok (.aload_n 0, 1) := by decide +kernel
theorem dX11_putIn_82 : decode cX11_putIn 82 = .ok (.getfield 111, 3) := by decide +kernel
theorem dX11_putIn_85 : decode cX11_putIn 85 = .ok (.iload 7, 2) := by decide +kernel
theorem dX11_putIn_87 : decode cX11_putIn 87 = .ok (.iaload, 1) := by decide +kernel
theorem dX11_putIn_88 : decode cX11_putIn 88 = .ok (.istore 5, 2) := by decide +kernel
theorem dX11_putIn_90 : decode cX11_putIn 90 = .ok (.aload_n 0, 1) := by decide +kernel
theorem dX11_putIn_91 : decode cX11_putIn 91 = .ok (.getfield 114, 3) := by decide +kernel
theorem dX11_putIn_94 : decode cX11_putIn 94 = .ok (.iload 7, 2) := by decide +kernel
theorem dX11_putIn_96 : decode cX11_putIn 96 = .ok (.iaload, 1) := by decide +kernel
theorem dX11_putIn_97 : decode cX11_putIn 97 = .ok (.iload_n 3, 1) := by decide +kernel
theorem dX11_putIn_98 : decode cX11_putIn 98 = .ok (.if_icmp .ge 13, 3) := by decide +kernel
theorem dX11_putIn_101 : decode cX11_putIn 101 = .ok (.aload_n 0, 1) := by decide +kernel
theorem dX11_putIn_102 : decode cX11_putIn 102 = .ok (.getfield 114, 3) := by decide +kernel
theorem dX11_putIn_105 : decode cX11_putIn 105 = .ok (.iload 7, 2) := by decide +kernel
theorem dX11_putIn_107 : decode cX11_putIn 107 = .ok (.iaload, 1) := by decide +kernel
theorem dX11_putIn_108 : decode cX11_putIn 108 = .ok (.goto 4, 3) := by decide +kernel
theorem dX11_putIn_111 : decode cX11_putIn 111 = .ok (.iload_n 3, 1) := by decide +kernel
theorem dX11_putIn_112 : decode cX11_putIn 112 = .ok (.istore_n 3, 1) := by decide +kernel
theorem dX11_putIn_113 : decode cX11_putIn 113 = .ok (.aload_n 0, 1) := by decide +kernel
theorem dX11_putIn_114 : decode cX11_putIn 114 = .ok (.getfield 114, 3) := by decide +kernel
theorem dX11_putIn_117 : decode cX11_putIn 117 = .ok (.iload 7, 2) := by decide +kernel
theorem dX11_putIn_119 : decode cX11_putIn 119 = .ok (.iaload, 1) := by decide +kernel
theorem dX11_putIn_120 : decode cX11_putIn 120 = .ok (.iload 4, 2) := by decide +kernel
theorem dX11_putIn_122 : decode cX11_putIn 122 = .ok (.if_icmp .le 13, 3) := by decide +kernel
theorem dX11_putIn_125 : decode cX11_putIn 125 = .ok (.aload_n 0, 1) := by decide +kernel
theorem dX11_putIn_126 : decode cX11_putIn 126 = .ok (.getfield 114, 3) := by decide +kernel
theorem dX11_putIn_129 : decode cX11_putIn 129 = .ok (.iload 7, 2) := by decide +kernel
theorem dX11_putIn_131 : decode cX11_putIn 131 = .ok (.iaload, 1) := by decide +kernel
theorem dX11_putIn_132 : decode cX11_putIn 132 = .ok (.goto 5, 3) := by decide +kernel
theorem dX11_putIn_135 : decode cX11_putIn 135 = .ok (.iload 4, 2) := by decide +kernel
theorem dX11_putIn_137 : decode cX11_putIn 137 = .ok (.istore 4, 2) := by decide +kernel
theorem dX11_putIn_139 : decode cX11_putIn 139 = .ok (.iinc 7 1, 3) := by decide +kernel
theorem dX11_putIn_142 : decode cX11_putIn 142 = .ok (.goto (-111), 3) := by decide +kernel
theorem dX11_putIn_145 : decode cX11_putIn 145 = .ok (.iload_n 2, 1) := by decide +kernel
theorem dX11_putIn_146 : decode cX11_putIn 146 = .ok (.iload 4, 2) := by decide +kernel
theorem dX11_putIn_148 : decode cX11_putIn 148 = .ok (.if_icmp .le 7, 3) := by decide +kernel
theorem dX11_putIn_151 : decode cX11_putIn 151 = .ok (.iload_n 2, 1) := by decide +kernel
theorem dX11_putIn_152 : decode cX11_putIn 152 = .ok (.goto 5, 3) := by decide +kernel
theorem dX11_putIn_155 : decode cX11_putIn 155 = .ok (.iload 4, 2) := by decide +kernel
theorem dX11_putIn_157 : decode cX11_putIn 157 = .ok (.istore 7, 2) := by decide +kernel
theorem dX11_putIn_159 : decode cX11_putIn 159 = .ok (.iload 6, 2) := by decide +kernel
theorem dX11_putIn_161 : decode cX11_putIn 161 = .ok (.ifCond .eq 19, 3) := by decide +kernel
theorem dX11_putIn_164 : decode cX11_putIn 164 = .ok (.iload 7, 2) := by decide +kernel
theorem dX11_putIn_166 : decode cX11_putIn 166 = .ok (.iload_n 3, 1) := by decide +kernel
theorem dX11_putIn_167 : decode cX11_putIn 167 = .ok (.isub, 1) := by decide +kernel
theorem dX11_putIn_168 : decode cX11_putIn 168 = .ok (.aload_n 0, 1) := by decide +kernel
theorem dX11_putIn_169 : decode cX11_putIn 169 = .ok (.getfield 108, 3) := by decide +kernel
theorem dX11_putIn_172 : decode cX11_putIn 172 = .ok (.if_icmp .gt 8, 3) := by decide +kernel
theorem dX11_putIn_175 : decode cX11_putIn 175 = .ok (.iload 7, 2) := by decide +kernel
theorem dX11_putIn_177 : decode cX11_putIn 177 = .ok (.goto 6, 3) := by decide +kernel
theorem dX11_putIn_180 : decode cX11_putIn 180 = .ok (.ldc_w 316, 3) := by decide +kernel
theorem dX11_putIn_183 : decode cX11_putIn 183 = .ok (.ireturn, 1) := by decide +kernel
theorem dX11_lasts_0 : decode cX11_lasts 0 = .ok (.iconst 0, 1) := by decide +kernel
theorem dX11_lasts_1 : decode cX11_lasts 1 = .ok (.istore_n 2, 1) := by decide +kernel
theorem dX11_lasts_2 : decode cX11_lasts 2 = .ok (.iload_n 1, 1) := by decide +kernel
theorem dX11_lasts_3 : decode cX11_lasts 3 = .ok (.iload_n 2, 1) := by decide +kernel
theorem dX11_lasts_4 : decode cX11_lasts 4 = .ok (.ishr, 1) := by decide +kernel
theorem dX11_lasts_5 : decode cX11_lasts 5 = .ok (.iconst 1, 1) := by decide +kernel
theorem dX11_lasts_6 : decode cX11_lasts 6 = .ok (.iand, 1) := by decide +kernel
theorem dX11_lasts_7 : decode cX11_lasts 7 = .ok (.ifCond .ne 9, 3) := by decide +kernel
theorem dX11_lasts_10 : decode cX11_lasts 10 = .ok (.iinc 2 1, 3) := by decide +kernel
theorem dX11_lasts_13 : decode cX11_lasts 13 = .ok (.goto (-11), 3) := by decide +kernel
theorem dX11_lasts_16 : decode cX11_lasts 16 = .ok (.aload_n 0, 1) := by decide +kernel
theorem dX11_lasts_17 : decode cX11_lasts 17 = .ok (.getfield 102, 3) := by decide +kernel
theorem dX11_lasts_20 : decode cX11_lasts 20 = .ok (.aload_n 0, 1) := by decide +kernel
theorem dX11_lasts_21 : decode cX11_lasts 21 = .ok (.getfield 105, 3) := by decide +kernel
theorem dX11_lasts_24 : decode cX11_lasts 24 = .ok (.aload_n 0, 1) := by decide +kernel
theorem dX11_lasts_25 : decode cX11_lasts 25 = .ok (.getfield 111, 3) := by decide +kernel
theorem dX11_lasts_28 : decode cX11_lasts 28 = .ok (.iload_n 2, 1) := by decide +kernel
theorem dX11_lasts_29 : decode cX11_lasts 29 = .ok (.iaload, 1) := by decide +kernel
theorem dX11_lasts_30 : decode cX11_lasts 30 = .ok (.imul, 1) := by decide +kernel
theorem dX11_lasts_31 : decode cX11_lasts 31 = .ok (.iadd, 1) := by decide +kernel
theorem dX11_lasts_32 : decode cX11_lasts 32 = .ok (.ireturn, 1) := by decide +kernel
theorem dX11_outBy_0 : decode cX11_outBy 0 = .ok (.aload_n 0, 1) := by decide +kernel
theorem dX11_outBy_1 : decode cX11_outBy 1 = .ok (.getfield 117, 3) := by decide +kernel
theorem dX11_outBy_4 : decode cX11_outBy 4 = .ok (.iload_n 1, 1) := by decide +kernel
theorem dX11_outBy_5 : decode cX11_outBy 5 = .ok (.iload_n 2, 1) := by decide +kernel
theorem dX11_outBy_6 : decode cX11_outBy 6 = .ok (.iconst (-1), 1) := by decide +kernel
theorem dX11_outBy_7 : decode cX11_outBy 7 = .ok (.ixor, 1) := by decide +kernel
theorem dX11_outBy_8 : decode cX11_outBy 8 = .ok (.iand, 1) := by decide +kernel
theorem dX11_outBy_9 : decode cX11_outBy 9 = .ok (.iaload, 1) := by decide +kernel
theorem dX11_outBy_10 : decode cX11_outBy 10 = .ok (.istore_n 3, 1) := by decide +kernel
theorem dX11_outBy_11 : decode cX11_outBy 11 = .ok (.iload_n 3, 1) := by decide +kernel
theorem dX11_outBy_12 : decode cX11_outBy 12 = .ok (.ldc_w 316, 3) := by decide +kernel
theorem dX11_outBy_15 : decode cX11_outBy 15 = .ok (.if_icmp .ne 9, 3) := by decide +kernel
theorem dX11_outBy_18 : decode cX11_outBy 18 = .ok (.ldc_w 316, 3) := by decide +kernel
theorem dX11_outBy_21 : decode cX11_outBy 21 = .ok (.goto 9, 3) := by decide +kernel
theorem dX11_outBy_24 : decode cX11_outBy 24 = .ok (.aload_n 0, 1) := by decide +kernel
theorem dX11_outBy_25 : decode cX11_outBy 25 = .ok (.iload_n 2, 1) := by decide +kernel
theorem dX11_outBy_26 : decode cX11_outBy 26 = .ok (.iload_n 3, 1) := by decide +kernel
theorem dX11_outBy_27 : decode cX11_outBy 27 = .ok (.invokevirtual 320, 3) := by decide +kernel
theorem dX11_outBy_30 : decode cX11_outBy 30 = .ok (.istore 4, 2) := by decide +kernel
theorem dX11_outBy_32 : decode cX11_outBy 32 = .ok (.iload 4, 2) := by decide +kernel
theorem dX11_outBy_34 : decode cX11_outBy 34 = .ok (.ldc_w 316, 3) := by decide +kernel
theorem dX11_outBy_37 : decode cX11_outBy 37 = .ok (.if_icmp .ne 9, 3) := by decide +kernel
theorem dX11_outBy_40 : decode cX11_outBy 40 = .ok (.ldc_w 316, 3) := by decide +kernel
theorem dX11_outBy_43 : decode cX11_outBy 43 = .ok (.goto 11, 3) := by decide +kernel
theorem dX11_outBy_46 : decode cX11_outBy 46 = .ok (.iload 4, 2) := by decide +kernel
theorem dX11_outBy_48 : decode cX11_outBy 48 = .ok (.aload_n 0, 1) := by decide +kernel
theorem dX11_outBy_49 : decode cX11_outBy 49 = .ok (.iload_n 2, 1) := by decide +kernel
theorem dX11_outBy_50 : decode cX11_outBy 50 = .ok (.invokevirtual 323, 3) := by decide +kernel
theorem dX11_outBy_53 : decode cX11_outBy 53 = .ok (.iadd, 1) := by decide +kernel
theorem dX11_outBy_54 : decode cX11_outBy 54 = .ok (.ireturn, 1) := by decide +kernel
theorem dX11_seek_0 : decode cX11_seek 0 = .ok (.aload_n 0, 1) := by decide +kernel
theorem dX11_seek_1 : decode cX11_seek 1 = .ok (.iconst 0, 1) := by decide +kernel
theorem dX11_seek_2 : decode cX11_seek 2 = .ok (.putfield 326, 3) := by decide +kernel
theorem dX11_seek_5 : decode cX11_seek 5 = .ok (.aload_n 0, 1) := by decide +kernel
theorem dX11_seek_6 : decode cX11_seek 6 = .ok (.getfield 117, 3) := by decide +kernel
theorem dX11_seek_9 : decode cX11_seek 9 = .ok (.iconst 0, 1) := by decide +kernel
theorem dX11_seek_10 : decode cX11_seek 10 = .ok (.iconst 0, 1) := by decide +kernel
theorem dX11_seek_11 : decode cX11_seek 11 = .ok (.iastore, 1) := by decide +kernel
theorem dX11_seek_12 : decode cX11_seek 12 = .ok (.iconst 1, 1) := by decide +kernel
theorem dX11_seek_13 : decode cX11_seek 13 = .ok (.istore_n 1, 1) := by decide +kernel
theorem dX11_seek_14 : decode cX11_seek 14 = .ok (.iload_n 1, 1) := by decide +kernel
theorem dX11_seek_15 : decode cX11_seek 15 = .ok (.iconst 1, 1) := by decide +kernel
theorem dX11_seek_16 : decode cX11_seek 16 = .ok (.aload_n 0, 1) := by decide +kernel
theorem dX11_seek_17 : decode cX11_seek 17 = .ok (.getfield 313, 3) := by decide +kernel
theorem dX11_seek_20 : decode cX11_seek 20 = .ok (.ishl, 1) := by decide +kernel
theorem dX11_seek_21 : decode cX11_seek 21 = .ok (.if_icmp .ge 124, 3) := by decide +kernel
theorem dX11_seek_24 : decode cX11_seek 24 = .ok (.aload_n 0, 1) := by decide +kernel
theorem dX11_seek_25 : decode cX11_seek 25 = .ok (.getfield 117, 3) := by decide +kernel
theorem dX11_seek_28 : decode cX11_seek 28 = .ok (.iload_n 1, 1) := by decide +kernel
theorem dX11_seek_29 : decode cX11_seek 29 = .ok (.ldc_w 316, 3) := by decide +kernel
theorem dX11_seek_32 : decode cX11_seek 32 = .ok (.iastore, 1) := by decide +kernel
theorem dX11_seek_33 : decode cX11_seek 33 = .ok (.iload_n 1, 1) := by decide +kernel
theorem dX11_seek_34 : decode cX11_seek 34 = .ok (.istore_n 2, 1) := by decide +kernel
theorem dX11_seek_35 : decode cX11_seek 35 = .ok (.iload_n 2, 1) := by decide +kernel
theorem dX11_seek_36 : decode cX11_seek 36 = .ok (.ifCond .le 45, 3) := by decide +kernel
theorem dX11_seek_39 : decode cX11_seek 39 = .ok (.aload_n 0, 1) := by decide +kernel
theorem dX11_seek_40 : decode cX11_seek 40 = .ok (.iload_n 1, 1) := by decide +kernel
theorem dX11_seek_41 : decode cX11_seek 41 = .ok (.iload_n 2, 1) := by decide +kernel
theorem dX11_seek_42 : decode cX11_seek 42 = .ok (.invokevirtual 329, 3) := by decide +kernel
theorem dX11_seek_45 : decode cX11_seek 45 = .ok (.istore_n 3, 1) := by decide +kernel
theorem dX11_seek_46 : decode cX11_seek 46 = .ok (.aload_n 0, 1) := by decide +kernel
theorem dX11_seek_47 : decode cX11_seek 47 = .ok (.getfield 117, 3) := by decide +kernel
theorem dX11_seek_50 : decode cX11_seek 50 = .ok (.iload_n 1, 1) := by decide +kernel
theorem dX11_seek_51 : decode cX11_seek 51 = .ok (.iload_n 3, 1) := by decide +kernel
theorem dX11_seek_52 : decode cX11_seek 52 = .ok (.aload_n 0, 1) := by decide +kernel
theorem dX11_seek_53 : decode cX11_seek 53 = .ok (.getfield 117, 3) := by decide +kernel
theorem dX11_seek_56 : decode cX11_seek 56 = .ok (.iload_n 1, 1) := by decide +kernel
theorem dX11_seek_57 : decode cX11_seek 57 = .ok (.iaload, 1) := by decide +kernel
theorem dX11_seek_58 : decode cX11_seek 58 = .ok (.if_icmp .ge 7, 3) := by decide +kernel
theorem dX11_seek_61 : decode cX11_seek 61 = .ok (.iload_n 3, 1) := by decide +kernel
theorem dX11_seek_62 : decode cX11_seek 62 = .ok (.goto 9, 3) := by decide +kernel
theorem dX11_seek_65 : decode cX11_seek 65 = .ok (.aload_n 0, 1) := by decide +kernel
theorem dX11_seek_66 : decode cX11_seek 66 = .ok (.getfield 117, 3) := by decide +kernel
theorem dX11_seek_69 : decode cX11_seek 69 = .ok (.iload_n 1, 1) := by decide +kernel
theorem dX11_seek_70 : decode cX11_seek 70 = .ok (.iaload, 1) := by decide +kernel
theorem dX11_seek_71 : decode cX11_seek 71 = .ok (.iastore, 1) := by decide +kernel
theorem dX11_seek_72 : decode cX11_seek 72 = .ok (.iload_n 2, 1) := by decide +kernel
theorem dX11_seek_73 : decode cX11_seek 73 = .ok (.iconst 1, 1) := by decide +kernel
theorem dX11_seek_74 : decode cX11_seek 74 = .ok (.isub, 1) := by decide +kernel
theorem dX11_seek_75 : decode cX11_seek 75 = .ok (.iload_n 1, 1) := by decide +kernel
theorem dX11_seek_76 : decode cX11_seek 76 = .ok (.iand, 1) := by decide +kernel
theorem dX11_seek_77 : decode cX11_seek 77 = .ok (.istore_n 2, 1) := by decide +kernel
theorem dX11_seek_78 : decode cX11_seek 78 = .ok (.goto (-43), 3) := by decide +kernel
theorem dX11_seek_81 : decode cX11_seek 81 = .ok (.iload_n 1, 1) := by decide +kernel
theorem dX11_seek_82 : decode cX11_seek 82 = .ok (.invokestatic 317, 3) := by decide +kernel
theorem dX11_seek_85 : decode cX11_seek 85 = .ok (.istore_n 2, 1) := by decide +kernel
theorem dX11_seek_86 : decode cX11_seek 86 = .ok (.aload_n 0, 1) := by decide +kernel
theorem dX11_seek_87 : decode cX11_seek 87 = .ok (.getfield 326, 3) := by decide +kernel
theorem dX11_seek_90 : decode cX11_seek 90 = .ok (.invokestatic 317, 3) := by decide +kernel
theorem dX11_seek_93 : decode cX11_seek 93 = .ok (.istore_n 3, 1) := by decide +kernel
theorem dX11_seek_94 : decode cX11_seek 94 = .ok (.aload_n 0, 1) := by decide +kernel
theorem dX11_seek_95 : decode cX11_seek 95 = .ok (.getfield 117, 3) := by decide +kernel
theorem dX11_seek_98 : decode cX11_seek 98 = .ok (.iload_n 1, 1) := by decide +kernel
theorem dX11_seek_99 : decode cX11_seek 99 = .ok (.iaload, 1) := by decide +kernel
theorem dX11_seek_100 : decode cX11_seek 100 = .ok (.ldc_w 316, 3) := by decide +kernel
theorem dX11_seek_103 : decode cX11_seek 103 = .ok (.if_icmp .ge 36, 3) := by decide +kernel
theorem dX11_seek_106 : decode cX11_seek 106 = .ok (.iload_n 2, 1) := by decide +kernel
theorem dX11_seek_107 : decode cX11_seek 107 = .ok (.iload_n 3, 1) := by decide +kernel
theorem dX11_seek_108 : decode cX11_seek 108 = .ok (.if_icmp .gt 26, 3) := by decide +kernel
theorem dX11_seek_111 : decode cX11_seek 111 = .ok (.iload_n 2, 1) := by decide +kernel
theorem dX11_seek_112 : decode cX11_seek 112 = .ok (.iload_n 3, 1) := by decide +kernel
theorem dX11_seek_113 : decode cX11_seek 113 = .ok (.if_icmp .ne 26, 3) := by decide +kernel
theorem dX11_seek_116 : decode cX11_seek 116 = .ok (.aload_n 0, 1) := by decide +kernel
theorem dX11_seek_117 : decode cX11_seek 117 = .ok (.getfield 117, 3) := by decide +kernel
theorem dX11_seek_120 : decode cX11_seek 120 = .ok (.iload_n 1, 1) := by decide +kernel
theorem dX11_seek_121 : decode cX11_seek 121 = .ok (.iaload, 1) := by decide +kernel
theorem dX11_seek_122 : decode cX11_seek 122 = .ok (.aload_n 0, 1) := by decide +kernel
theorem dX11_seek_123 : decode cX11_seek 123 = .ok (.getfield 117, 3) := by decide +kernel
theorem dX11_seek_126 : decode cX11_seek 126 = .ok (.aload_n 0, 1) := by decide +kernel
theorem dX11_seek_127 : decode cX11_seek 127 = .ok (.getfield 326, 3) := by decide +kernel
theorem dX11_seek_130 : decode cX11_seek 130 = .ok (.iaload, 1) := by decide +kernel
theorem dX11_seek_131 : decode cX11_seek 131 = .ok (.if_icmp .ge 8, 3) := by decide +kernel
theorem dX11_seek_134 : decode cX11_seek 134 = .ok (.aload_n 0, 1) := by decide +kernel
theorem dX11_seek_135 : decode cX11_seek 135 = .ok (.iload_n 1, 1) := by decide +kernel
theorem dX11_seek_136 : decode cX11_seek 136 = .ok (.putfield 326, 3) := by decide +kernel
theorem dX11_seek_139 : decode cX11_seek 139 = .ok (.iinc 1 1, 3) := by decide +kernel
theorem dX11_seek_142 : decode cX11_seek 142 = .ok (.goto (-128), 3) := by decide +kernel
theorem dX11_seek_145 : decode cX11_seek 145 = .ok (.aload_n 0, 1) := by decide +kernel
theorem dX11_seek_146 : decode cX11_seek 146 = .ok (.iconst 0, 1) := by decide +kernel
theorem dX11_seek_147 : decode cX11_seek 147 = .ok (.putfield 332, 3) := by decide +kernel
theorem dX11_seek_150 : decode cX11_seek 150 = .ok (.aload_n 0, 1) := by decide +kernel
theorem dX11_seek_151 : decode cX11_seek 151 = .ok (.getfield 326, 3) := by decide +kernel
theorem dX11_seek_154 : decode cX11_seek 154 = .ok (.istore_n 1, 1) := by decide +kernel
theorem dX11_seek_155 : decode cX11_seek 155 = .ok (.iload_n 1, 1) := by decide +kernel
theorem dX11_seek_156 : decode cX11_seek 156 = .ok (.ifCond .le 87, 3) := by decide +kernel
theorem dX11_seek_159 : decode cX11_seek 159 = .ok (.iconst 1, 1) := by decide +kernel
theorem dX11_seek_160 : decode cX11_seek 160 = .ok (.istore_n 2, 1) := by decide +kernel
theorem dX11_seek_161 : decode cX11_seek 161 = .ok (.iload_n 2, 1) := by decide +kernel
theorem dX11_seek_162 : decode cX11_seek 162 = .ok (.iload_n 1, 1) := by decide +kernel
theorem dX11_seek_163 : decode cX11_seek 163 = .ok (.iconst (-1), 1) := by decide +kernel
theorem dX11_seek_164 : decode cX11_seek 164 = .ok (.ixor, 1) := by decide +kernel
theorem dX11_seek_165 : decode cX11_seek 165 = .ok (.iand, 1) := by decide +kernel
theorem dX11_seek_166 : decode cX11_seek 166 = .ok (.ifCond .ne 18, 3) := by decide +kernel
theorem dX11_seek_169 : decode cX11_seek 169 = .ok (.aload_n 0, 1) := by decide +kernel
theorem dX11_seek_170 : decode cX11_seek 170 = .ok (.iload_n 1, 1) := by decide +kernel
theorem dX11_seek_171 : decode cX11_seek 171 = .ok (.iload_n 2, 1) := by decide +kernel
theorem dX11_seek_172 : decode cX11_seek 172 = .ok (.invokevirtual 329, 3) := by decide +kernel
theorem dX11_seek_175 : decode cX11_seek 175 = .ok (.aload_n 0, 1) := by decide +kernel
theorem dX11_seek_176 : decode cX11_seek 176 = .ok (.getfield 117, 3) := by decide +kernel
theorem dX11_seek_179 : decode cX11_seek 179 = .ok (.iload_n 1, 1) := by decide +kernel
theorem dX11_seek_180 : decode cX11_seek 180 = .ok (.iaload, 1) := by decide +kernel
theorem dX11_seek_181 : decode cX11_seek 181 = .ok (.if_icmp .eq 9, 3) := by decide +kernel
theorem dX11_seek_184 : decode cX11_seek 184 = .ok (.iinc 2 1, 3) := by decide +kernel
theorem dX11_seek_187 : decode cX11_seek 187 = .ok (.goto (-26), 3) := by decide +kernel
theorem dX11_seek_190 : decode cX11_seek 190 = .ok (.aload_n 0, 1) := by decide +kernel
theorem dX11_seek_191 : decode cX11_seek 191 = .ok (.getfield 120, 3) := by decide +kernel
theorem dX11_seek_194 : decode cX11_seek 194 = .ok (.aload_n 0, 1) := by decide +kernel
theorem dX11_seek_195 : decode cX11_seek 195 = .ok (.getfield 332, 3) := by decide +kernel
theorem dX11_seek_198 : decode cX11_seek 198 = .ok (.iload_n 2, 1) := by decide +kernel
theorem dX11_seek_199 : decode cX11_seek 199 = .ok (.iastore, 1) := by decide +kernel
theorem dX11_seek_200 : decode cX11_seek 200 = .ok (.aload_n 0, 1) := by decide +kernel
theorem dX11_seek_201 : decode cX11_seek 201 = .ok (.getfield 123, 3) := by decide +kernel
theorem dX11_seek_204 : decode cX11_seek 204 = .ok (.aload_n 0, 1) := by decide +kernel
theorem dX11_seek_205 : decode cX11_seek 205 = .ok (.getfield 332, 3) := by decide +kernel
theorem dX11_seek_208 : decode cX11_seek 208 = .ok (.aload_n 0, 1) := by decide +kernel
theorem dX11_seek_209 : decode cX11_seek 209 = .ok (.iload_n 2, 1) := by decide +kernel
theorem dX11_seek_210 : decode cX11_seek 210 = .ok (.aload_n 0, 1) := by decide +kernel
theorem dX11_seek_211 : decode cX11_seek 211 = .ok (.getfield 117, 3) := by decide +kernel
theorem dX11_seek_214 : decode cX11_seek 214 = .ok (.iload_n 1, 1) := by decide +kernel
theorem dX11_seek_215 : decode cX11_seek 215 = .ok (.iload_n 2, 1) := by decide +kernel
theorem dX11_seek_216 : decode cX11_seek 216 = .ok (.iconst (-1), 1) := by decide +kernel
theorem dX11_seek_217 : decode cX11_seek 217 = .ok (.ixor, 1) := by decide +kernel
theorem dX11_seek_218 : decode cX11_seek 218 = .ok (.iand, 1) := by decide +kernel
theorem dX11_seek_219 : decode cX11_seek 219 = .ok (.iaload, 1) := by decide +kernel
theorem dX11_seek_220 : decode cX11_seek 220 = .ok (.invokevirtual 320, 3) := by decide +kernel
theorem dX11_seek_223 : decode cX11_seek 223 = .ok (.iastore, 1) := by decide +kernel
theorem dX11_seek_224 : decode cX11_seek 224 = .ok (.aload_n 0, 1) := by decide +kernel
theorem dX11_seek_225 : decode cX11_seek 225 = .ok (.dup, 1) := by decide +kernel
theorem dX11_seek_226 : decode cX11_seek 226 = .ok (.getfield 332, 3) := by decide +kernel
theorem dX11_seek_229 : decode cX11_seek 229 = .ok (.iconst 1, 1) := by decide +kernel
theorem dX11_seek_230 : decode cX11_seek 230 = .ok (.iadd, 1) := by decide +kernel
theorem dX11_seek_231 : decode cX11_seek 231 = .ok (.putfield 332, 3) := by decide +kernel
theorem dX11_seek_234 : decode cX11_seek 234 = .ok (.iload_n 1, 1) := by decide +kernel
theorem dX11_seek_235 : decode cX11_seek 235 = .ok (.iload_n 2, 1) := by decide +kernel
theorem dX11_seek_236 : decode cX11_seek 236 = .ok (.iconst (-1), 1) := by decide +kernel
theorem dX11_seek_237 : decode cX11_seek 237 = .ok (.ixor, 1) := by decide +kernel
theorem dX11_seek_238 : decode cX11_seek 238 = .ok (.iand, 1) := by decide +kernel
theorem dX11_seek_239 : decode cX11_seek 239 = .ok (.istore_n 1, 1) := by decide +kernel
theorem dX11_seek_240 : decode cX11_seek 240 = .ok (.goto (-85), 3) := by decide +kernel
theorem dX11_seek_243 : decode cX11_seek 243 = .ok (.return_, 1) := by decide +kernel
theorem dX11_plan_0 : decode cX11_plan 0 = .ok (.aload_n 0, 1) := by decide +kernel
theorem dX11_plan_1 : decode cX11_plan 1 = .ok (.invokevirtual 335, 3) := by decide +kernel
theorem dX11_plan_4 : decode cX11_plan 4 = .ok (.iload_n 1, 1) := by decide +kernel
theorem dX11_plan_5 : decode cX11_plan 5 = .ok (.ifCond .ne 13, 3) := by decide +kernel
theorem dX11_plan_8 : decode cX11_plan 8 = .ok (.aload_n 0, 1) := by decide +kernel
theorem dX11_plan_9 : decode cX11_plan 9 = .ok (.getfield 326, 3) := by decide +kernel
theorem dX11_plan_12 : decode cX11_plan 12 = .ok (.invokestatic 317, 3) := by decide +kernel
theorem dX11_plan_15 : decode cX11_plan 15 = .ok (.goto 45, 3) := by decide +kernel
theorem dX11_plan_18 : decode cX11_plan 18 = .ok (.iload_n 1, 1) := by decide +kernel
theorem dX11_plan_19 : decode cX11_plan 19 = .ok (.iconst 1, 1) := by decide +kernel
theorem dX11_plan_20 : decode cX11_plan 20 = .ok (.if_icmp .ne 10, 3) := by decide +kernel
theorem dX11_plan_23 : decode cX11_plan 23 = .ok (.aload_n 0, 1) := by decide +kernel
theorem dX11_plan_24 : decode cX11_plan 24 = .ok (.getfield 326, 3) := by decide +kernel
theorem dX11_plan_27 : decode cX11_plan 27 = .ok (.goto 33, 3) := by decide +kernel
theorem dX11_plan_30 : decode cX11_plan 30 = .ok (.iload_n 1, 1) := by decide +kernel
theorem dX11_plan_31 : decode cX11_plan 31 = .ok (.iconst 2, 1) := by decide +kernel
theorem dX11_plan_32 : decode cX11_plan 32 = .ok (.if_icmp .ne 15, 3) := by decide +kernel
theorem dX11_plan_35 : decode cX11_plan 35 = .ok (.aload_n 0, 1) := by decide +kernel
theorem dX11_plan_36 : decode cX11_plan 36 = .ok (.getfield 117, 3) := by decide +kernel
theorem dX11_plan_39 : decode cX11_plan 39 = .ok (.aload_n 0, 1) := by decide +kernel
theorem dX11_plan_40 : decode cX11_plan 40 = .ok (.getfield 326, 3) := by decide +kernel
theorem dX11_plan_43 : decode cX11_plan 43 = .ok (.iaload, 1) := by decide +kernel
theorem dX11_plan_44 : decode cX11_plan 44 = .ok (.goto 16, 3) := by decide +kernel
theorem dX11_plan_47 : decode cX11_plan 47 = .ok (.iload_n 1, 1) := by decide +kernel
theorem dX11_plan_48 : decode cX11_plan 48 = .ok (.iconst 3, 1) := by decide +kernel
theorem dX11_plan_49 : decode cX11_plan 49 = .ok (.if_icmp .ne 10, 3) := by decide +kernel
theorem dX11_plan_52 : decode cX11_plan 52 = .ok (.aload_n 0, 1) := by decide +kernel
theorem dX11_plan_53 : decode cX11_plan 53 = .ok (.getfield 332, 3) := by decide +kernel
theorem dX11_plan_56 : decode cX11_plan 56 = .ok (.goto 4, 3) := by decide +kernel
theorem dX11_plan_59 : decode cX11_plan 59 = .ok (.iconst (-1), 1) := by decide +kernel
theorem dX11_plan_60 : decode cX11_plan 60 = .ok (.ireturn, 1) := by decide +kernel
theorem dX11_load_0 : decode cX11_load 0 = .ok (.aload_n 0, 1) := by decide +kernel
theorem dX11_load_1 : decode cX11_load 1 = .ok (.invokevirtual 335, 3) := by decide +kernel
theorem dX11_load_4 : decode cX11_load 4 = .ok (.iload_n 1, 1) := by decide +kernel
theorem dX11_load_5 : decode cX11_load 5 = .ok (.ifCond .lt 11, 3) := by decide +kernel
theorem dX11_load_8 : decode cX11_load 8 = .ok (.iload_n 1, 1) := by decide +kernel
theorem dX11_load_9 : decode cX11_load 9 = .ok (.aload_n 0, 1) := by decide +kernel
theorem dX11_load_10 : decode cX11_load 10 = .ok (.getfield 332, 3) := by decide +kernel
theorem dX11_load_13 : decode cX11_load 13 = .ok (.if_icmp .lt 7, 3) := by decide +kernel
theorem dX11_load_16 : decode cX11_load 16 = .ok (.iconst (-1), 1) := by decide +kernel
theorem dX11_load_17 : decode cX11_load 17 = .ok (.goto 45, 3) := by decide +kernel
theorem dX11_load_20 : decode cX11_load 20 = .ok (.iload_n 2, 1) := by decide +kernel
theorem dX11_load_21 : decode cX11_load 21 = .ok (.ifCond .ne 19, 3) := by decide +kernel
theorem dX11_load_24 : decode cX11_load 24 = .ok (.aload_n 0, 1) := by decide +kernel
theorem dX11_load_25 : decode cX11_load 25 = .ok (.getfield 120, 3) := by decide +kernel
theorem dX11_load_28 : decode cX11_load 28 = .ok (.aload_n 0, 1) := by decide +kernel
theorem dX11_load_29 : decode cX11_load 29 = .ok (.getfield 332, 3) := by decide +kernel
theorem dX11_load_32 : decode cX11_load 32 = .ok (.iconst 1, 1) := by decide +kernel
theorem dX11_load_33 : decode cX11_load 33 = .ok (.isub, 1) := by decide +kernel
theorem dX11_load_34 : decode cX11_load 34 = .ok (.iload_n 1, 1) := by decide +kernel
theorem dX11_load_35 : decode cX11_load 35 = .ok (.isub, 1) := by decide +kernel
theorem dX11_load_36 : decode cX11_load 36 = .ok (.iaload, 1) := by decide +kernel
theorem dX11_load_37 : decode cX11_load 37 = .ok (.goto 25, 3) := by decide +kernel
theorem dX11_load_40 : decode cX11_load 40 = .ok (.iload_n 2, 1) := by decide +kernel
theorem dX11_load_41 : decode cX11_load 41 = .ok (.iconst 1, 1) := by decide +kernel
theorem dX11_load_42 : decode cX11_load 42 = .ok (.if_icmp .ne 19, 3) := by decide +kernel
theorem dX11_load_45 : decode cX11_load 45 = .ok (.aload_n 0, 1) := by decide +kernel
theorem dX11_load_46 : decode cX11_load 46 = .ok (.getfield 123, 3) := by decide +kernel
theorem dX11_load_49 : decode cX11_load 49 = .ok (.aload_n 0, 1) := by decide +kernel
theorem dX11_load_50 : decode cX11_load 50 = .ok (.getfield 332, 3) := by decide +kernel
theorem dX11_load_53 : decode cX11_load 53 = .ok (.iconst 1, 1) := by decide +kernel
theorem dX11_load_54 : decode cX11_load 54 = .ok (.isub, 1) := by decide +kernel
theorem dX11_load_55 : decode cX11_load 55 = .ok (.iload_n 1, 1) := by decide +kernel
theorem dX11_load_56 : decode cX11_load 56 = .ok (.isub, 1) := by decide +kernel
theorem dX11_load_57 : decode cX11_load 57 = .ok (.iaload, 1) := by decide +kernel
theorem dX11_load_58 : decode cX11_load 58 = .ok (.goto 4, 3) := by decide +kernel
theorem dX11_load_61 : decode cX11_load 61 = .ok (.iconst (-1), 1) := by decide +kernel
theorem dX11_load_62 : decode cX11_load 62 = .ok (.ireturn, 1) := by decide +kernel
theorem dX11_about_0 : decode cX11_about 0 = .ok (.iload_n 1, 1) := by decide +kernel
theorem dX11_about_1 : decode cX11_about 1 = .ok (.ifCond .ne 10, 3) := by decide +kernel
theorem dX11_about_4 : decode cX11_about 4 = .ok (.aload_n 0, 1) := by decide +kernel
theorem dX11_about_5 : decode cX11_about 5 = .ok (.getfield 278, 3) := by decide +kernel
theorem dX11_about_8 : decode cX11_about 8 = .ok (.goto 40, 3) := by decide +kernel
theorem dX11_about_11 : decode cX11_about 11 = .ok (.iload_n 1, 1) := by decide +kernel
theorem dX11_about_12 : decode cX11_about 12 = .ok (.iconst 1, 1) := by decide +kernel
theorem dX11_about_13 : decode cX11_about 13 = .ok (.if_icmp .ne 10, 3) := by decide +kernel
theorem dX11_about_16 : decode cX11_about 16 = .ok (.aload_n 0, 1) := by decide +kernel
theorem dX11_about_17 : decode cX11_about 17 = .ok (.getfield 284, 3) := by decide +kernel
theorem dX11_about_20 : decode cX11_about 20 = .ok (.goto 28, 3) := by decide +kernel
theorem dX11_about_23 : decode cX11_about 23 = .ok (.iload_n 1, 1) := by decide +kernel
theorem dX11_about_24 : decode cX11_about 24 = .ok (.iconst 2, 1) := by decide +kernel
theorem dX11_about_25 : decode cX11_about 25 = .ok (.if_icmp .ne 10, 3) := by decide +kernel
theorem dX11_about_28 : decode cX11_about 28 = .ok (.aload_n 0, 1) := by decide +kernel
theorem dX11_about_29 : decode cX11_about 29 = .ok (.getfield 313, 3) := by decide +kernel
theorem dX11_about_32 : decode cX11_about 32 = .ok (.goto 16, 3) := by decide +kernel
theorem dX11_about_35 : decode cX11_about 35 = .ok (.iload_n 1, 1) := by decide +kernel
theorem dX11_about_36 : decode cX11_about 36 = .ok (.iconst 3, 1) := by decide +kernel
theorem dX11_about_37 : decode cX11_about 37 = .ok (.if_icmp .ne 10, 3) := by decide +kernel
theorem dX11_about_40 : decode cX11_about 40 = .ok (.aload_n 0, 1) := by decide +kernel
theorem dX11_about_41 : decode cX11_about 41 = .ok (.getfield 147, 3) := by decide +kernel
theorem dX11_about_44 : decode cX11_about 44 = .ok (.goto 4, 3) := by decide +kernel
theorem dX11_about_47 : decode cX11_about 47 = .ok (.iconst (-1), 1) := by decide +kernel
theorem dX11_about_48 : decode cX11_about 48 = .ok (.ireturn, 1) := by decide +kernel
theorem dJ6_bitCount_0f7a4_0 : decode cJ6_bitCount_0f7a4 0 = .ok (.iload_n 0, 1) := by decide +kernel
theorem dJ6_bitCount_0f7a4_1 : decode cJ6_bitCount_0f7a4 1 = .ok (.iload_n 0, 1) := by decide +kernel
theorem dJ6_bitCount_0f7a4_2 : decode cJ6_bitCount_0f7a4 2 = .ok (.iconst 1, 1) := by decide +kernel
theorem dJ6_bitCount_0f7a4_3 : decode cJ6_bitCount_0f7a4 3 = .ok (.iushr, 1) := by decide +kernel
theorem dJ6_bitCount_0f7a4_4 : decode cJ6_bitCount_0f7a4 4 = .ok (.ldc_w 265, 3) := by decide +kernel
theorem dJ6_bitCount_0f7a4_7 : decode cJ6_bitCount_0f7a4 7 = .ok (.iand, 1) := by decide +kernel
theorem dJ6_bitCount_0f7a4_8 : decode cJ6_bitCount_0f7a4 8 = .ok (.isub, 1) := by decide +kernel
theorem dJ6_bitCount_0f7a4_9 : decode cJ6_bitCount_0f7a4 9 = .ok (.istore_n 0, 1) := by decide +kernel
theorem dJ6_bitCount_0f7a4_10 : decode cJ6_bitCount_0f7a4 10 = .ok (.iload_n 0, 1) := by decide +kernel
theorem dJ6_bitCount_0f7a4_11 : decode cJ6_bitCount_0f7a4 11 = .ok (.ldc_w 266, 3) := by decide +kernel
theorem dJ6_bitCount_0f7a4_14 : decode cJ6_bitCount_0f7a4 14 = .ok (.iand, 1) := by decide +kernel
theorem dJ6_bitCount_0f7a4_15 : decode cJ6_bitCount_0f7a4 15 = .ok (.iload_n 0, 1) := by decide +kernel
theorem dJ6_bitCount_0f7a4_16 : decode cJ6_bitCount_0f7a4 16 = .ok (.iconst 2, 1) := by decide +kernel
theorem dJ6_bitCount_0f7a4_17 : decode cJ6_bitCount_0f7a4 17 = .ok (.iushr, 1) := by decide +kernel
theorem dJ6_bitCount_0f7a4_18 : decode cJ6_bitCount_0f7a4 18 = .ok (.ldc_w 266, 3) := by decide +kernel
theorem dJ6_bitCount_0f7a4_21 : decode cJ6_bitCount_0f7a4 21 = .ok (.iand, 1) := by decide +kernel
theorem dJ6_bitCount_0f7a4_22 : decode cJ6_bitCount_0f7a4 22 = .ok (.iadd, 1) := by decide +kernel
theorem dJ6_bitCount_0f7a4_23 : decode cJ6_bitCount_0f7a4 23 = .ok (.istore_n 0, 1) := by decide +kernel
theorem dJ6_bitCount_0f7a4_24 : decode cJ6_bitCount_0f7a4 24 = .ok (.iload_n 0, 1) := by decide +kernel
theorem dJ6_bitCount_0f7a4_25 : decode cJ6_bitCount_0f7a4 25 = .ok (.iload_n 0, 1) := by decide +kernel
theorem dJ6_bitCount_0f7a4_26 : decode cJ6_bitCount_0f7a4 26 = .ok (.iconst 4, 1) := by decide +kernel
theorem dJ6_bitCount_0f7a4_27 : decode cJ6_bitCount_0f7a4 27 = .ok (.iushr, 1) := by decide +kernel
theorem dJ6_bitCount_0f7a4_28 : decode cJ6_bitCount_0f7a4 28 = .ok (.iadd, 1) := by decide +kernel
theorem dJ6_bitCount_0f7a4_29 : decode cJ6_bitCount_0f7a4 29 = .ok (.ldc_w 267, 3) := by decide +kernel
theorem dJ6_bitCount_0f7a4_32 : decode cJ6_bitCount_0f7a4 32 = .ok (.iand, 1) := by decide +kernel
theorem dJ6_bitCount_0f7a4_33 : decode cJ6_bitCount_0f7a4 33 = .ok (.istore_n 0, 1) := by decide +kernel
theorem dJ6_bitCount_0f7a4_34 : decode cJ6_bitCount_0f7a4 34 = .ok (.iload_n 0, 1) := by decide +kernel
theorem dJ6_bitCount_0f7a4_35 : decode cJ6_bitCount_0f7a4 35 = .ok (.iload_n 0, 1) := by decide +kernel
theorem dJ6_bitCount_0f7a4_36 : decode cJ6_bitCount_0f7a4 36 = .ok (.bipush 8, 2) := by decide +kernel
theorem dJ6_bitCount_0f7a4_38 : decode cJ6_bitCount_0f7a4 38 = .ok (.iushr, 1) := by decide +kernel
theorem dJ6_bitCount_0f7a4_39 : decode cJ6_bitCount_0f7a4 39 = .ok (.iadd, 1) := by decide +kernel
theorem dJ6_bitCount_0f7a4_40 : decode cJ6_bitCount_0f7a4 40 = .ok (.istore_n 0, 1) := by decide +kernel
theorem dJ6_bitCount_0f7a4_41 : decode cJ6_bitCount_0f7a4 41 = .ok (.iload_n 0, 1) := by decide +kernel
theorem dJ6_bitCount_0f7a4_42 : decode cJ6_bitCount_0f7a4 42 = .ok (.iload_n 0, 1) := by decide +kernel
theorem dJ6_bitCount_0f7a4_43 : decode cJ6_bitCount_0f7a4 43 = .ok (.bipush 16, 2) := by decide +kernel
theorem dJ6_bitCount_0f7a4_45 : decode cJ6_bitCount_0f7a4 45 = .ok (.iushr, 1) := by decide +kernel
theorem dJ6_bitCount_0f7a4_46 : decode cJ6_bitCount_0f7a4 46 = .ok (.iadd, 1) := by decide +kernel
theorem dJ6_bitCount_0f7a4_47 : decode cJ6_bitCount_0f7a4 47 = .ok (.istore_n 0, 1) := by decide +kernel
theorem dJ6_bitCount_0f7a4_48 : decode cJ6_bitCount_0f7a4 48 = .ok (.iload_n 0, 1) := by decide +kernel
theorem dJ6_bitCount_0f7a4_49 : decode cJ6_bitCount_0f7a4 49 = .ok (.bipush 63, 2) := by decide +kernel
theorem dJ6_bitCount_0f7a4_51 : decode cJ6_bitCount_0f7a4 51 = .ok (.iand, 1) := by decide +kernel
theorem dJ6_bitCount_0f7a4_52 : decode cJ6_bitCount_0f7a4 52 = .ok (.ireturn, 1) := by decide +kernel
theorem dJ9_max_7cf53_0 : decode cJ9_max_7cf53 0 = .ok (.iload_n 0, 1) := by decide +kernel
theorem dJ9_max_7cf53_1 : decode cJ9_max_7cf53 1 = .ok (.iload_n 1, 1) := by decide +kernel
theorem dJ9_max_7cf53_2 : decode cJ9_max_7cf53 2 = .ok (.if_icmp .lt 7, 3) := by decide +kernel
theorem dJ9_max_7cf53_5 : decode cJ9_max_7cf53 5 = .ok (.iload_n 0, 1) := by decide +kernel
theorem dJ9_max_7cf53_6 : decode cJ9_max_7cf53 6 = .ok (.goto 4, 3) := by decide +kernel
theorem dJ9_max_7cf53_9 : decode cJ9_max_7cf53 9 = .ok (.iload_n 1, 1) := by decide +kernel
theorem dJ9_max_7cf53_10 : decode cJ9_max_7cf53 10 = .ok (.ireturn, 1) := by decide +kernel
theorem dJ9_min_7cf53_0 : decode cJ9_min_7cf53 0 = .ok (.iload_n 0, 1) := by decide +kernel
theorem dJ9_min_7cf53_1 : decode cJ9_min_7cf53 1 = .ok (.iload_n 1, 1) := by decide +kernel
theorem dJ9_min_7cf53_2 : decode cJ9_min_7cf53 2 = .ok (.if_icmp .gt 7, 3) := by decide +kernel
theorem dJ9_min_7cf53_5 : decode cJ9_min_7cf53 5 = .ok (.iload_n 0, 1) := by decide +kernel
theorem dJ9_min_7cf53_6 : decode cJ9_min_7cf53 6 = .ok (.goto 4, 3) := by decide +kernel
theorem dJ9_min_7cf53_9 : decode cJ9_min_7cf53 9 = .ok (.iload_n 1, 1) := by decide +kernel
theorem dJ9_min_7cf53_10 : decode cJ9_min_7cf53 10 = .ok (.ireturn, 1) := by decide +kernel
theorem dJ0_length_8abf5_0 : decode cJ0_length_8abf5 0 = .ok (.aload_n 0, 1) := by decide +kernel
theorem dJ0_length_8abf5_1 : decode cJ0_length_8abf5 1 = .ok (.getfield 9, 3) := by decide +kernel
theorem dJ0_length_8abf5_4 : decode cJ0_length_8abf5 4 = .ok (.arraylength, 1) := by decide +kernel
theorem dJ0_length_8abf5_5 : decode cJ0_length_8abf5 5 = .ok (.aload_n 0, 1) := by decide +kernel
theorem dJ0_length_8abf5_6 : decode cJ0_length_8abf5 6 = .ok (.invokevirtual 335, 3) := by decide +kernel
theorem dJ0_length_8abf5_9 : decode cJ0_length_8abf5 9 = .ok (.ishr, 1) := by decide +kernel
theorem dJ0_length_8abf5_10 : decode cJ0_length_8abf5 10 = .ok (.ireturn, 1) := by decide +kernel
theorem dJ0_charAt_5068e_0 : decode cJ0_charAt_5068e 0 = .ok (.aload_n 0, 1) := by decide +kernel
theorem dJ0_charAt_5068e_1 : decode cJ0_charAt_5068e 1 = .ok (.invokevirtual 492, 3) := by decide +kernel
theorem dJ0_charAt_5068e_4 : decode cJ0_charAt_5068e 4 = .ok (.ifCond .eq 12, 3) := by decide +kernel
theorem dJ0_charAt_5068e_7 : decode cJ0_charAt_5068e 7 = .ok (.aload_n 0, 1) := by decide +kernel
theorem dJ0_charAt_5068e_8 : decode cJ0_charAt_5068e 8 = .ok (.getfield 9, 3) := by decide +kernel
theorem dJ0_charAt_5068e_11 : decode cJ0_charAt_5068e 11 = .ok (.iload_n 1, 1) := by decide +kernel
theorem dJ0_charAt_5068e_12 : decode cJ0_charAt_5068e 12 = .ok (.invokestatic 495, 3) := by decide +kernel
theorem dJ0_charAt_5068e_15 : decode cJ0_charAt_5068e 15 = .ok (.ireturn, 1) := by decide +kernel
theorem dJ0_charAt_5068e_16 : decode cJ0_charAt_5068e 16 = .ok (.aload_n 0, 1) := by decide +kernel
theorem dJ0_charAt_5068e_17 : decode cJ0_charAt_5068e 17 = .ok (.getfield 9, 3) := by decide +kernel
theorem dJ0_charAt_5068e_20 : decode cJ0_charAt_5068e 20 = .ok (.iload_n 1, 1) := by decide +kernel
theorem dJ0_charAt_5068e_21 : decode cJ0_charAt_5068e 21 = .ok (.invokestatic 498, 3) := by decide +kernel
theorem dJ0_charAt_5068e_24 : decode cJ0_charAt_5068e 24 = .ok (.ireturn, 1) := by decide +kernel
theorem dJ0_coder_7d493_0 : decode cJ0_coder_7d493 0 = .ok (.getstatic 38, 3) := by decide +kernel
theorem dJ0_coder_7d493_3 : decode cJ0_coder_7d493 3 = .ok (.ifCond .eq 10, 3) := by decide +kernel
theorem dJ0_coder_7d493_6 : decode cJ0_coder_7d493 6 = .ok (.aload_n 0, 1) := by decide +kernel
theorem dJ0_coder_7d493_7 : decode cJ0_coder_7d493 7 = .ok (.getfield 15, 3) := by decide +kernel
theorem dJ0_coder_7d493_10 : decode cJ0_coder_7d493 10 = .ok (.goto 4, 3) := by decide +kernel
theorem dJ0_coder_7d493_13 : decode cJ0_coder_7d493 13 = .ok (.iconst 1, 1) := by decide +kernel
theorem dJ0_coder_7d493_14 : decode cJ0_coder_7d493 14 = .ok (.ireturn, 1) := by decide +kernel
theorem dJ0_isLatin1_aae02_0 : decode cJ0_isLatin1_aae02 0 = .ok (.getstatic 38, 3) := by decide +kernel
theorem dJ0_isLatin1_aae02_3 : decode cJ0_isLatin1_aae02 3 = .ok (.ifCond .eq 14, 3) := by decide +kernel
theorem dJ0_isLatin1_aae02_6 : decode cJ0_isLatin1_aae02 6 = .ok (.aload_n 0, 1) := by decide +kernel
theorem dJ0_isLatin1_aae02_7 : decode cJ0_isLatin1_aae02 7 = .ok (.getfield 15, 3) := by decide +kernel
theorem dJ0_isLatin1_aae02_10 : decode cJ0_isLatin1_aae02 10 = .ok (.ifCond .ne 7, 3) := by decide +kernel
theorem dJ0_isLatin1_aae02_13 : decode cJ0_isLatin1_aae02 13 = .ok (.iconst 1, 1) := by decide +kernel
theorem dJ0_isLatin1_aae02_14 : decode cJ0_isLatin1_aae02 14 = .ok (.goto 4, 3) := by decide +kernel
theorem dJ0_isLatin1_aae02_17 : decode cJ0_isLatin1_aae02 17 = .ok (.iconst 0, 1) := by decide +kernel
theorem dJ0_isLatin1_aae02_18 : decode cJ0_isLatin1_aae02 18 = .ok (.ireturn, 1) := by decide +kernel
theorem dJ0_checkIndex_df160_0 : decode cJ0_checkIndex_df160 0 = .ok (.iload_n 0, 1) := by decide +kernel
theorem dJ0_checkIndex_df160_1 : decode cJ0_checkIndex_df160 1 = .ok (.iload_n 1, 1) := by decide +kernel
theorem dJ0_checkIndex_df160_2 : decode cJ0_checkIndex_df160 2 = .ok (.getstatic 1053, 3) := by decide +kernel
theorem dJ0_checkIndex_df160_5 : decode cJ0_checkIndex_df160 5 = .ok (.invokestatic 1059, 3) := by decide +kernel
theorem dJ0_checkIndex_df160_8 : decode cJ0_checkIndex_df160 8 = .ok (.pop, 1) := by decide +kernel
theorem dJ0_checkIndex_df160_9 : decode cJ0_checkIndex_df160 9 = .ok (.return_, 1) := by decide +kernel
theorem dJ1_charAt_3b067_0 : decode cJ1_charAt_3b067 0 = .ok (.iload_n 1, 1) := by decide +kernel
theorem dJ1_charAt_3b067_1 : decode cJ1_charAt_3b067 1 = .ok (.aload_n 0, 1) := by decide +kernel
theorem dJ1_charAt_3b067_2 : decode cJ1_charAt_3b067 2 = .ok (.arraylength, 1) := by decide +kernel
theorem dJ1_charAt_3b067_3 : decode cJ1_charAt_3b067 3 = .ok (.invokestatic 9, 3) := by decide +kernel
theorem dJ1_charAt_3b067_6 : decode cJ1_charAt_3b067 6 = .ok (.aload_n 0, 1) := by decide +kernel
theorem dJ1_charAt_3b067_7 : decode cJ1_charAt_3b067 7 = .ok (.iload_n 1, 1) := by decide +kernel
theorem dJ1_charAt_3b067_8 : decode cJ1_charAt_3b067 8 = .ok (.baload, 1) := by decide +kernel
theorem dJ1_charAt_3b067_9 : decode cJ1_charAt_3b067 9 = .ok (.sipush 255, 3) := by decide +kernel
theorem dJ1_charAt_3b067_12 : decode cJ1_charAt_3b067 12 = .ok (.iand, 1) := by decide +kernel
theorem dJ1_charAt_3b067_13 : decode cJ1_charAt_3b067 13 = .ok (.i2c, 1) := by decide +kernel
theorem dJ1_charAt_3b067_14 : decode cJ1_charAt_3b067 14 = .ok (.ireturn, 1) := by decide +kernel
theorem dJ2_getChar_3b067_0 : decode cJ2_getChar_3b067 0 = .ok (.getstatic 44, 3) := by decide +kernel
theorem dJ2_getChar_3b067_3 : decode cJ2_getChar_3b067 3 = .ok (.ifCond .ne 25, 3) := by decide +kernel
theorem dJ2_getChar_3b067_6 : decode cJ2_getChar_3b067 6 = .ok (.iload_n 1, 1) := by decide +kernel
theorem dJ2_getChar_3b067_7 : decode cJ2_getChar_3b067 7 = .ok (.ifCond .lt 11, 3) := by decide +kernel
theorem dJ2_getChar_3b067_10 : decode cJ2_getChar_3b067 10 = .ok (.iload_n 1, 1) := by decide +kernel
theorem dJ2_getChar_3b067_11 : decode cJ2_getChar_3b067 11 = .ok (.aload_n 0, 1) := by decide +kernel
theorem dJ2_getChar_3b067_12 : decode cJ2_getChar_3b067 12 = .ok (.invokestatic 48, 3) := by decide +kernel
theorem dJ2_getChar_3b067_15 : decode cJ2_getChar_3b067 15 = .ok (.if_icmp .lt 13, 3) := by decide +kernel
theorem dJ2_getChar_3b067_18 : decode cJ2_getChar_3b067 18 = .ok (.new 52, 3) := by decide +kernel
theorem dJ2_getChar_3b067_21 : decode cJ2_getChar_3b067 21 = .ok (.dup, 1) := by decide +kernel
theorem dJ2_getChar_3b067_22 : decode cJ2_getChar_3b067 22 = .ok (.ldc 54, 2) := by decide +kernel
theorem dJ2_getChar_3b067_24 : decode cJ2_getChar_3b067 24 = .ok (.invokespecial 56, 3) := by decide +kernel
theorem dJ2_getChar_3b067_27 : decode cJ2_getChar_3b067 27 = .ok (.athrow, 1) := by decide +kernel
theorem dJ2_getChar_3b067_28 : decode cJ2_getChar_3b067 28 = .ok (.iload_n 1, 1) := by decide +kernel
theorem dJ2_getChar_3b067_29 : decode cJ2_getChar_3b067 29 = .ok (.iconst 1, 1) := by decide +kernel
theorem dJ2_getChar_3b067_30 : decode cJ2_getChar_3b067 30 = .ok (.ishl, 1) := by decide +kernel
theorem dJ2_getChar_3b067_31 : decode cJ2_getChar_3b067 31 = .ok (.istore_n 1, 1) := by decide +kernel
theorem dJ2_getChar_3b067_32 : decode cJ2_getChar_3b067 32 = .ok (.aload_n 0, 1) := by decide +kernel
theorem dJ2_getChar_3b067_33 : decode cJ2_getChar_3b067 33 = .ok (.iload_n 1, 1) := by decide +kernel
theorem dJ2_getChar_3b067_34 : decode cJ2_getChar_3b067 34 = .ok (.iinc 1 1, 3) := by decide +kernel
theorem dJ2_getChar_3b067_37 : decode cJ2_getChar_3b067 37 = .ok (.baload, 1) := by decide +kernel
theorem dJ2_getChar_3b067_38 : decode cJ2_getChar_3b067 38 = .ok (.sipush 255, 3) := by decide +kernel
theorem dJ2_getChar_3b067_41 : decode cJ2_getChar_3b067 41 = .ok (.iand, 1) := by decide +kernel
theorem dJ2_getChar_3b067_42 : decode cJ2_getChar_3b067 42 = .ok (.getstatic 59, 3) := by decide +kernel
theorem dJ2_getChar_3b067_45 : decode cJ2_getChar_3b067 45 = .ok (.ishl, 1) := by decide +kernel
theorem dJ2_getChar_3b067_46 : decode cJ2_getChar_3b067 46 = .ok (.aload_n 0, 1) := by decide +kernel
theorem dJ2_getChar_3b067_47 : decode cJ2_getChar_3b067 47 = .ok (.iload_n 1, 1) := by decide +kernel
theorem dJ2_getChar_3b067_48 : decode cJ2_getChar_3b067 48 = .ok (.baload, 1) := by decide +kernel
theorem dJ2_getChar_3b067_49 : decode cJ2_getChar_3b067 49 = .ok (.sipush 255, 3) := by decide +kernel
theorem dJ2_getChar_3b067_52 : decode cJ2_getChar_3b067 52 = .ok (.iand, 1) := by decide +kernel
theorem dJ2_getChar_3b067_53 : decode cJ2_getChar_3b067 53 = .ok (.getstatic 63, 3) := by decide +kernel
theorem dJ2_getChar_3b067_56 : decode cJ2_getChar_3b067 56 = .ok (.ishl, 1) := by decide +kernel
theorem dJ2_getChar_3b067_57 : decode cJ2_getChar_3b067 57 = .ok (.ior, 1) := by decide +kernel
theorem dJ2_getChar_3b067_58 : decode cJ2_getChar_3b067 58 = .ok (.i2c, 1) := by decide +kernel
theorem dJ2_getChar_3b067_59 : decode cJ2_getChar_3b067 59 = .ok (.ireturn, 1) := by decide +kernel
theorem dJ2_length_9d52b_0 : decode cJ2_length_9d52b 0 = .ok (.aload_n 0, 1) := by decide +kernel
theorem dJ2_length_9d52b_1 : decode cJ2_length_9d52b 1 = .ok (.arraylength, 1) := by decide +kernel
theorem dJ2_length_9d52b_2 : decode cJ2_length_9d52b 2 = .ok (.iconst 1, 1) := by decide +kernel
theorem dJ2_length_9d52b_3 : decode cJ2_length_9d52b 3 = .ok (.ishr, 1) := by decide +kernel
theorem dJ2_length_9d52b_4 : decode cJ2_length_9d52b 4 = .ok (.ireturn, 1) := by decide +kernel
theorem dJ2_charAt_3b067_0 : decode cJ2_charAt_3b067 0 = .ok (.iload_n 1, 1) := by decide +kernel
theorem dJ2_charAt_3b067_1 : decode cJ2_charAt_3b067 1 = .ok (.aload_n 0, 1) := by decide +kernel
theorem dJ2_charAt_3b067_2 : decode cJ2_charAt_3b067 2 = .ok (.invokestatic 67, 3) := by decide +kernel
theorem dJ2_charAt_3b067_5 : decode cJ2_charAt_3b067 5 = .ok (.aload_n 0, 1) := by decide +kernel
theorem dJ2_charAt_3b067_6 : decode cJ2_charAt_3b067 6 = .ok (.iload_n 1, 1) := by decide +kernel
theorem dJ2_charAt_3b067_7 : decode cJ2_charAt_3b067 7 = .ok (.invokestatic 71, 3) := by decide +kernel
theorem dJ2_charAt_3b067_10 : decode cJ2_charAt_3b067 10 = .ok (.ireturn, 1) := by decide +kernel
theorem dJ2_checkIndex_2214a_0 : decode cJ2_checkIndex_2214a 0 = .ok (.iload_n 0, 1) := by decide +kernel
theorem dJ2_checkIndex_2214a_1 : decode cJ2_checkIndex_2214a 1 = .ok (.aload_n 1, 1) := by decide +kernel
theorem dJ2_checkIndex_2214a_2 : decode cJ2_checkIndex_2214a 2 = .ok (.invokestatic 48, 3) := by decide +kernel
theorem dJ2_checkIndex_2214a_5 : decode cJ2_checkIndex_2214a 5 = .ok (.invokestatic 414, 3) := by decide +kernel
theorem dJ2_checkIndex_2214a_8 : decode cJ2_checkIndex_2214a 8 = .ok (.return_, 1) := by decide +kernel
theorem dJ3_checkIndex_8e157_0 : decode cJ3_checkIndex_8e157 0 = .ok (.iload_n 0, 1) := by decide +kernel
theorem dJ3_checkIndex_8e157_1 : decode cJ3_checkIndex_8e157 1 = .ok (.ifCond .lt 8, 3) := by decide +kernel
theorem dJ3_checkIndex_8e157_4 : decode cJ3_checkIndex_8e157 4 = .ok (.iload_n 0, 1) := by decide +kernel
theorem dJ3_checkIndex_8e157_5 : decode cJ3_checkIndex_8e157 5 = .ok (.iload_n 1, 1) := by decide +kernel
theorem dJ3_checkIndex_8e157_6 : decode cJ3_checkIndex_8e157 6 = .ok (.if_icmp .lt 10, 3) := by decide +kernel
theorem dJ3_checkIndex_8e157_9 : decode cJ3_checkIndex_8e157 9 = .ok (.aload_n 2, 1) := by decide +kernel
theorem dJ3_checkIndex_8e157_10 : decode cJ3_checkIndex_8e157 10 = .ok (.iload_n 0, 1) := by decide +kernel
theorem dJ3_checkIndex_8e157_11 : decode cJ3_checkIndex_8e157 11 = .ok (.iload_n 1, 1) := by decide +kernel
theorem dJ3_checkIndex_8e157_12 : decode cJ3_checkIndex_8e157 12 = .ok (.invokestatic 95, 3) := by decide +kernel
theorem dJ3_checkIndex_8e157_15 : decode cJ3_checkIndex_8e157 15 = .ok (.athrow, 1) := by decide +kernel
theorem dJ3_checkIndex_8e157_16 : decode cJ3_checkIndex_8e157 16 = .ok (.iload_n 0, 1) := by decide +kernel
theorem dJ3_checkIndex_8e157_17 : decode cJ3_checkIndex_8e157 17 = .ok (.ireturn, 1) := by decide +kernel
theorem dL_law_0 : decode cL_law 0 = .ok (.new 7, 3) := by decide +kernel
theorem dL_law_3 : decode cL_law 3 = .ok (.dup, 1) := by decide +kernel
theorem dL_law_4 : decode cL_law 4 = .ok (.invokespecial 9, 3) := by decide +kernel
theorem dL_law_7 : decode cL_law 7 = .ok (.astore_n 1, 1) := by decide +kernel
theorem dL_law_8 : decode cL_law 8 = .ok (.new 10, 3) := by decide +kernel
theorem dL_law_11 : decode cL_law 11 = .ok (.dup, 1) := by decide +kernel
theorem dL_law_12 : decode cL_law 12 = .ok (.invokespecial 12, 3) := by decide +kernel
theorem dL_law_15 : decode cL_law 15 = .ok (.astore_n 2, 1) := by decide +kernel
theorem dL_law_16 : decode cL_law 16 = .ok (.iconst 0, 1) := by decide +kernel
theorem dL_law_17 : decode cL_law 17 = .ok (.istore_n 3, 1) := by decide +kernel
theorem dL_law_18 : decode cL_law 18 = .ok (.iload_n 3, 1) := by decide +kernel
theorem dL_law_19 : decode cL_law 19 = .ok (.aload_n 0, 1) := by decide +kernel
theorem dL_law_20 : decode cL_law 20 = .ok (.arraylength, 1) := by decide +kernel
theorem dL_law_21 : decode cL_law 21 = .ok (.bipush 6, 2) := by decide +kernel
theorem dL_law_23 : decode cL_law 23 = .ok (.isub, 1) := by decide +kernel
theorem dL_law_24 : decode cL_law 24 = .ok (.if_icmp .gt 857, 3) := by decide +kernel
theorem dL_law_27 : decode cL_law 27 = .ok (.aload_n 0, 1) := by decide +kernel
theorem dL_law_28 : decode cL_law 28 = .ok (.iload_n 3, 1) := by decide +kernel
theorem dL_law_29 : decode cL_law 29 = .ok (.iaload, 1) := by decide +kernel
theorem dL_law_30 : decode cL_law 30 = .ok (.bipush 31, 2) := by decide +kernel
theorem dL_law_32 : decode cL_law 32 = .ok (.iand, 1) := by decide +kernel
theorem dL_law_33 : decode cL_law 33 = .ok (.tableswitch 842 0 22 #[107, 140, 163, 196, 259, 282, 295, 318, 331, 364, 407, 420, 433, 466, 545, 588, 621, 664, 717, 750, 763, 786, 819], 107) := by decide +kernel
theorem dL_law_140 : decode cL_law 140 = .ok (.aload_n 1, 1) := by decide +kernel
theorem dL_law_141 : decode cL_law 141 = .ok (.aload_n 0, 1) := by decide +kernel
theorem dL_law_142 : decode cL_law 142 = .ok (.iload_n 3, 1) := by decide +kernel
theorem dL_law_143 : decode cL_law 143 = .ok (.iconst 1, 1) := by decide +kernel
theorem dL_law_144 : decode cL_law 144 = .ok (.iadd, 1) := by decide +kernel
theorem dL_law_145 : decode cL_law 145 = .ok (.iaload, 1) := by decide +kernel
theorem dL_law_146 : decode cL_law 146 = .ok (.aload_n 0, 1) := by decide +kernel
theorem dL_law_147 : decode cL_law 147 = .ok (.iload_n 3, 1) := by decide +kernel
theorem dL_law_148 : decode cL_law 148 = .ok (.iconst 2, 1) := by decide +kernel
theorem dL_law_149 : decode cL_law 149 = .ok (.iadd, 1) := by decide +kernel
theorem dL_law_150 : decode cL_law 150 = .ok (.iaload, 1) := by decide +kernel
theorem dL_law_151 : decode cL_law 151 = .ok (.invokevirtual 13, 3) := by decide +kernel
theorem dL_law_154 : decode cL_law 154 = .ok (.aload_n 2, 1) := by decide +kernel
theorem dL_law_155 : decode cL_law 155 = .ok (.aload_n 0, 1) := by decide +kernel
theorem dL_law_156 : decode cL_law 156 = .ok (.iload_n 3, 1) := by decide +kernel
theorem dL_law_157 : decode cL_law 157 = .ok (.iconst 1, 1) := by decide +kernel
theorem dL_law_158 : decode cL_law 158 = .ok (.iadd, 1) := by decide +kernel
theorem dL_law_159 : decode cL_law 159 = .ok (.iaload, 1) := by decide +kernel
theorem dL_law_160 : decode cL_law 160 = .ok (.aload_n 0, 1) := by decide +kernel
theorem dL_law_161 : decode cL_law 161 = .ok (.iload_n 3, 1) := by decide +kernel
theorem dL_law_162 : decode cL_law 162 = .ok (.iconst 2, 1) := by decide +kernel
theorem dL_law_163 : decode cL_law 163 = .ok (.iadd, 1) := by decide +kernel
theorem dL_law_164 : decode cL_law 164 = .ok (.iaload, 1) := by decide +kernel
theorem dL_law_165 : decode cL_law 165 = .ok (.invokevirtual 17, 3) := by decide +kernel
theorem dL_law_168 : decode cL_law 168 = .ok (.if_icmp .eq 707, 3) := by decide +kernel
theorem dL_law_171 : decode cL_law 171 = .ok (.iconst 0, 1) := by decide +kernel
theorem dL_law_172 : decode cL_law 172 = .ok (.ireturn, 1) := by decide +kernel
theorem dL_law_173 : decode cL_law 173 = .ok (.aload_n 1, 1) := by decide +kernel
theorem dL_law_174 : decode cL_law 174 = .ok (.aload_n 0, 1) := by decide +kernel
theorem dL_law_175 : decode cL_law 175 = .ok (.iload_n 3, 1) := by decide +kernel
theorem dL_law_176 : decode cL_law 176 = .ok (.iconst 1, 1) := by decide +kernel
theorem dL_law_177 : decode cL_law 177 = .ok (.iadd, 1) := by decide +kernel
theorem dL_law_178 : decode cL_law 178 = .ok (.iaload, 1) := by decide +kernel
theorem dL_law_179 : decode cL_law 179 = .ok (.invokevirtual 18, 3) := by decide +kernel
theorem dL_law_182 : decode cL_law 182 = .ok (.aload_n 2, 1) := by decide +kernel
theorem dL_law_183 : decode cL_law 183 = .ok (.aload_n 0, 1) := by decide +kernel
theorem dL_law_184 : decode cL_law 184 = .ok (.iload_n 3, 1) := by decide +kernel
theorem dL_law_185 : decode cL_law 185 = .ok (.iconst 1, 1) := by decide +kernel
theorem dL_law_186 : decode cL_law 186 = .ok (.iadd, 1) := by decide +kernel
theorem dL_law_187 : decode cL_law 187 = .ok (.iaload, 1) := by decide +kernel
theorem dL_law_188 : decode cL_law 188 = .ok (.invokevirtual 22, 3) := by decide +kernel
theorem dL_law_191 : decode cL_law 191 = .ok (.if_icmp .eq 684, 3) := by decide +kernel
theorem dL_law_194 : decode cL_law 194 = .ok (.iconst 0, 1) := by decide +kernel
theorem dL_law_195 : decode cL_law 195 = .ok (.ireturn, 1) := by decide +kernel
theorem dL_law_196 : decode cL_law 196 = .ok (.aload_n 1, 1) := by decide +kernel
theorem dL_law_197 : decode cL_law 197 = .ok (.aload_n 0, 1) := by decide +kernel
theorem dL_law_198 : decode cL_law 198 = .ok (.iload_n 3, 1) := by decide +kernel
theorem dL_law_199 : decode cL_law 199 = .ok (.iconst 1, 1) := by decide +kernel
theorem dL_law_200 : decode cL_law 200 = .ok (.iadd, 1) := by decide +kernel
theorem dL_law_201 : decode cL_law 201 = .ok (.iaload, 1) := by decide +kernel
theorem dL_law_202 : decode cL_law 202 = .ok (.aload_n 0, 1) := by decide +kernel
theorem dL_law_203 : decode cL_law 203 = .ok (.iload_n 3, 1) := by decide +kernel
theorem dL_law_204 : decode cL_law 204 = .ok (.iconst 2, 1) := by decide +kernel
theorem dL_law_205 : decode cL_law 205 = .ok (.iadd, 1) := by decide +kernel
theorem dL_law_206 : decode cL_law 206 = .ok (.iaload, 1) := by decide +kernel
theorem dL_law_207 : decode cL_law 207 = .ok (.invokevirtual 23, 3) := by decide +kernel
theorem dL_law_210 : decode cL_law 210 = .ok (.aload_n 2, 1) := by decide +kernel
theorem dL_law_211 : decode cL_law 211 = .ok (.aload_n 0, 1) := by decide +kernel
theorem dL_law_212 : decode cL_law 212 = .ok (.iload_n 3, 1) := by decide +kernel
theorem dL_law_213 : decode cL_law 213 = .ok (.iconst 1, 1) := by decide +kernel
theorem dL_law_214 : decode cL_law 214 = .ok (.iadd, 1) := by decide +kernel
theorem dL_law_215 : decode cL_law 215 = .ok (.iaload, 1) := by decide +kernel
theorem dL_law_216 : decode cL_law 216 = .ok (.aload_n 0, 1) := by decide +kernel
theorem dL_law_217 : decode cL_law 217 = .ok (.iload_n 3, 1) := by decide +kernel
theorem dL_law_218 : decode cL_law 218 = .ok (.iconst 2, 1) := by decide +kernel
theorem dL_law_219 : decode cL_law 219 = .ok (.iadd, 1) := by decide +kernel
theorem dL_law_220 : decode cL_law 220 = .ok (.iaload, 1) := by decide +kernel
theorem dL_law_221 : decode cL_law 221 = .ok (.invokevirtual 27, 3) := by decide +kernel
theorem dL_law_224 : decode cL_law 224 = .ok (.if_icmp .eq 651, 3) := by decide +kernel
theorem dL_law_227 : decode cL_law 227 = .ok (.iconst 0, 1) := by decide +kernel
theorem dL_law_228 : decode cL_law 228 = .ok (.ireturn, 1) := by decide +kernel
theorem dL_law_229 : decode cL_law 229 = .ok (.aload_n 1, 1) := by decide +kernel
theorem dL_law_230 : decode cL_law 230 = .ok (.aload_n 0, 1) := by decide +kernel
theorem dL_law_231 : decode cL_law 231 = .ok (.iload_n 3, 1) := by decide +kernel
theorem dL_law_232 : decode cL_law 232 = .ok (.iconst 1, 1) := by decide +kernel
theorem dL_law_233 : decode cL_law 233 = .ok (.iadd, 1) := by decide +kernel
theorem dL_law_234 : decode cL_law 234 = .ok (.iaload, 1) := by decide +kernel
theorem dL_law_235 : decode cL_law 235 = .ok (.aload_n 0, 1) := by decide +kernel
theorem dL_law_236 : decode cL_law 236 = .ok (.iload_n 3, 1) := by decide +kernel
theorem dL_law_237 : decode cL_law 237 = .ok (.iconst 2, 1) := by decide +kernel
theorem dL_law_238 : decode cL_law 238 = .ok (.iadd, 1) := by decide +kernel
theorem dL_law_239 : decode cL_law 239 = .ok (.iaload, 1) := by decide +kernel
theorem dL_law_240 : decode cL_law 240 = .ok (.aload_n 0, 1) := by decide +kernel
theorem dL_law_241 : decode cL_law 241 = .ok (.iload_n 3, 1) := by decide +kernel
theorem dL_law_242 : decode cL_law 242 = .ok (.iconst 3, 1) := by decide +kernel
theorem dL_law_243 : decode cL_law 243 = .ok (.iadd, 1) := by decide +kernel
theorem dL_law_244 : decode cL_law 244 = .ok (.iaload, 1) := by decide +kernel
theorem dL_law_245 : decode cL_law 245 = .ok (.aload_n 0, 1) := by decide +kernel
theorem dL_law_246 : decode cL_law 246 = .ok (.iload_n 3, 1) := by decide +kernel
theorem dL_law_247 : decode cL_law 247 = .ok (.iconst 4, 1) := by decide +kernel
theorem dL_law_248 : decode cL_law 248 = .ok (.iadd, 1) := by decide +kernel
theorem dL_law_249 : decode cL_law 249 = .ok (.iaload, 1) := by decide +kernel
theorem dL_law_250 : decode cL_law 250 = .ok (.aload_n 0, 1) := by decide +kernel
theorem dL_law_251 : decode cL_law 251 = .ok (.iload_n 3, 1) := by decide +kernel
theorem dL_law_252 : decode cL_law 252 = .ok (.iconst 5, 1) := by decide +kernel
theorem dL_law_253 : decode cL_law 253 = .ok (.iadd, 1) := by decide +kernel
theorem dL_law_254 : decode cL_law 254 = .ok (.iaload, 1) := by decide +kernel
theorem dL_law_255 : decode cL_law 255 = .ok (.invokevirtual 28, 3) := by decide +kernel
theorem dL_law_258 : decode cL_law 258 = .ok (.aload_n 2, 1) := by decide +kernel
theorem dL_law_259 : decode cL_law 259 = .ok (.aload_n 0, 1) := by decide +kernel
theorem dL_law_260 : decode cL_law 260 = .ok (.iload_n 3, 1) := by decide +kernel
theorem dL_law_261 : decode cL_law 261 = .ok (.iconst 1, 1) := by decide +kernel
theorem dL_law_262 : decode cL_law 262 = .ok (.iadd, 1) := by decide +kernel
theorem dL_law_263 : decode cL_law 263 = .ok (.iaload, 1) := by decide +kernel
theorem dL_law_264 : decode cL_law 264 = .ok (.aload_n 0, 1) := by decide +kernel
theorem dL_law_265 : decode cL_law 265 = .ok (.iload_n 3, 1) := by decide +kernel
theorem dL_law_266 : decode cL_law 266 = .ok (.iconst 2, 1) := by decide +kernel
theorem dL_law_267 : decode cL_law 267 = .ok (.iadd, 1) := by decide +kernel
theorem dL_law_268 : decode cL_law 268 = .ok (.iaload, 1) := by decide +kernel
theorem dL_law_269 : decode cL_law 269 = .ok (.aload_n 0, 1) := by decide +kernel
theorem dL_law_270 : decode cL_law 270 = .ok (.iload_n 3, 1) := by decide +kernel
theorem dL_law_271 : decode cL_law 271 = .ok (.iconst 3, 1) := by decide +kernel
theorem dL_law_272 : decode cL_law 272 = .ok (.iadd, 1) := by decide +kernel
theorem dL_law_273 : decode cL_law 273 = .ok (.iaload, 1) := by decide +kernel
theorem dL_law_274 : decode cL_law 274 = .ok (.aload_n 0, 1) := by decide +kernel
theorem dL_law_275 : decode cL_law 275 = .ok (.iload_n 3, 1) := by decide +kernel
theorem dL_law_276 : decode cL_law 276 = .ok (.iconst 4, 1) := by decide +kernel
theorem dL_law_277 : decode cL_law 277 = .ok (.iadd, 1) := by decide +kernel
theorem dL_law_278 : decode cL_law 278 = .ok (.iaload, 1) := by decide +kernel
theorem dL_law_279 : decode cL_law 279 = .ok (.aload_n 0, 1) := by decide +kernel
theorem dL_law_280 : decode cL_law 280 = .ok (.iload_n 3, 1) := by decide +kernel
theorem dL_law_281 : decode cL_law 281 = .ok (.iconst 5, 1) := by decide +kernel
theorem dL_law_282 : decode cL_law 282 = .ok (.iadd, 1) := by decide +kernel
theorem dL_law_283 : decode cL_law 283 = .ok (.iaload, 1) := by decide +kernel
theorem dL_law_284 : decode cL_law 284 = .ok (.invokevirtual 32, 3) := by decide +kernel
theorem dL_law_287 : decode cL_law 287 = .ok (.if_icmp .eq 588, 3) := by decide +kernel
theorem dL_law_290 : decode cL_law 290 = .ok (.iconst 0, 1) := by decide +kernel
theorem dL_law_291 : decode cL_law 291 = .ok (.ireturn, 1) := by decide +kernel
theorem dL_law_292 : decode cL_law 292 = .ok (.aload_n 1, 1) := by decide +kernel
theorem dL_law_293 : decode cL_law 293 = .ok (.aload_n 0, 1) := by decide +kernel
theorem dL_law_294 : decode cL_law 294 = .ok (.iload_n 3, 1) := by decide +kernel
theorem dL_law_295 : decode cL_law 295 = .ok (.iconst 1, 1) := by decide +kernel
theorem dL_law_296 : decode cL_law 296 = .ok (.iadd, 1) := by decide +kernel
theorem dL_law_297 : decode cL_law 297 = .ok (.iaload, 1) := by decide +kernel
theorem dL_law_298 : decode cL_law 298 = .ok (.invokevirtual 33, 3) := by decide +kernel
theorem dL_law_301 : decode cL_law 301 = .ok (.aload_n 2, 1) := by decide +kernel
theorem dL_law_302 : decode cL_law 302 = .ok (.aload_n 0, 1) := by decide +kernel
theorem dL_law_303 : decode cL_law 303 = .ok (.iload_n 3, 1) := by decide +kernel
theorem dL_law_304 : decode cL_law 304 = .ok (.iconst 1, 1) := by decide +kernel
theorem dL_law_305 : decode cL_law 305 = .ok (.iadd, 1) := by decide +kernel
theorem dL_law_306 : decode cL_law 306 = .ok (.iaload, 1) := by decide +kernel
theorem dL_law_307 : decode cL_law 307 = .ok (.invokevirtual 36, 3) := by decide +kernel
theorem dL_law_310 : decode cL_law 310 = .ok (.if_icmp .eq 565, 3) := by decide +kernel
theorem dL_law_313 : decode cL_law 313 = .ok (.iconst 0, 1) := by decide +kernel
theorem dL_law_314 : decode cL_law 314 = .ok (.ireturn, 1) := by decide +kernel
theorem dL_law_315 : decode cL_law 315 = .ok (.aload_n 1, 1) := by decide +kernel
theorem dL_law_316 : decode cL_law 316 = .ok (.invokevirtual 37, 3) := by decide +kernel
theorem dL_law_319 : decode cL_law 319 = .ok (.aload_n 2, 1) := by decide +kernel
theorem dL_law_320 : decode cL_law 320 = .ok (.invokevirtual 41, 3) := by decide +kernel
theorem dL_law_323 : decode cL_law 323 = .ok (.if_icmp .eq 552, 3) := by decide +kernel
theorem dL_law_326 : decode cL_law 326 = .ok (.iconst 0, 1) := by decide +kernel
theorem dL_law_327 : decode cL_law 327 = .ok (.ireturn, 1) := by decide +kernel
theorem dL_law_328 : decode cL_law 328 = .ok (.aload_n 1, 1) := by decide +kernel
theorem dL_law_329 : decode cL_law 329 = .ok (.aload_n 0, 1) := by decide +kernel
theorem dL_law_330 : decode cL_law 330 = .ok (.iload_n 3, 1) := by decide +kernel
theorem dL_law_331 : decode cL_law 331 = .ok (.iconst 1, 1) := by decide +kernel
theorem dL_law_332 : decode cL_law 332 = .ok (.iadd, 1) := by decide +kernel
theorem dL_law_333 : decode cL_law 333 = .ok (.iaload, 1) := by decide +kernel
theorem dL_law_334 : decode cL_law 334 = .ok (.invokevirtual 42, 3) := by decide +kernel
theorem dL_law_337 : decode cL_law 337 = .ok (.aload_n 2, 1) := by decide +kernel
theorem dL_law_338 : decode cL_law 338 = .ok (.aload_n 0, 1) := by decide +kernel
theorem dL_law_339 : decode cL_law 339 = .ok (.iload_n 3, 1) := by decide +kernel
theorem dL_law_340 : decode cL_law 340 = .ok (.iconst 1, 1) := by decide +kernel
theorem dL_law_341 : decode cL_law 341 = .ok (.iadd, 1) := by decide +kernel
theorem dL_law_342 : decode cL_law 342 = .ok (.iaload, 1) := by decide +kernel
theorem dL_law_343 : decode cL_law 343 = .ok (.invokevirtual 45, 3) := by decide +kernel
theorem dL_law_346 : decode cL_law 346 = .ok (.if_icmp .eq 529, 3) := by decide +kernel
theorem dL_law_349 : decode cL_law 349 = .ok (.iconst 0, 1) := by decide +kernel
theorem dL_law_350 : decode cL_law 350 = .ok (.ireturn, 1) := by decide +kernel
theorem dL_law_351 : decode cL_law 351 = .ok (.aload_n 1, 1) := by decide +kernel
theorem dL_law_352 : decode cL_law 352 = .ok (.invokevirtual 46, 3) := by decide +kernel
theorem dL_law_355 : decode cL_law 355 = .ok (.aload_n 2, 1) := by decide +kernel
theorem dL_law_356 : decode cL_law 356 = .ok (.invokevirtual 49, 3) := by decide +kernel
theorem dL_law_359 : decode cL_law 359 = .ok (.if_icmp .eq 516, 3) := by decide +kernel
theorem dL_law_362 : decode cL_law 362 = .ok (.iconst 0, 1) := by decide +kernel
theorem dL_law_363 : decode cL_law 363 = .ok (.ireturn, 1) := by decide +kernel
theorem dL_law_364 : decode cL_law 364 = .ok (.aload_n 1, 1) := by decide +kernel
theorem dL_law_365 : decode cL_law 365 = .ok (.aload_n 0, 1) := by decide +kernel
theorem dL_law_366 : decode cL_law 366 = .ok (.iload_n 3, 1) := by decide +kernel
theorem dL_law_367 : decode cL_law 367 = .ok (.iconst 1, 1) := by decide +kernel
theorem dL_law_368 : decode cL_law 368 = .ok (.iadd, 1) := by decide +kernel
theorem dL_law_369 : decode cL_law 369 = .ok (.iaload, 1) := by decide +kernel
theorem dL_law_370 : decode cL_law 370 = .ok (.aload_n 0, 1) := by decide +kernel
theorem dL_law_371 : decode cL_law 371 = .ok (.iload_n 3, 1) := by decide +kernel
theorem dL_law_372 : decode cL_law 372 = .ok (.iconst 2, 1) := by decide +kernel
theorem dL_law_373 : decode cL_law 373 = .ok (.iadd, 1) := by decide +kernel
theorem dL_law_374 : decode cL_law 374 = .ok (.iaload, 1) := by decide +kernel
theorem dL_law_375 : decode cL_law 375 = .ok (.invokevirtual 50, 3) := by decide +kernel
theorem dL_law_378 : decode cL_law 378 = .ok (.aload_n 2, 1) := by decide +kernel
theorem dL_law_379 : decode cL_law 379 = .ok (.aload_n 0, 1) := by decide +kernel
theorem dL_law_380 : decode cL_law 380 = .ok (.iload_n 3, 1) := by decide +kernel
theorem dL_law_381 : decode cL_law 381 = .ok (.iconst 1, 1) := by decide +kernel
theorem dL_law_382 : decode cL_law 382 = .ok (.iadd, 1) := by decide +kernel
theorem dL_law_383 : decode cL_law 383 = .ok (.iaload, 1) := by decide +kernel
theorem dL_law_384 : decode cL_law 384 = .ok (.aload_n 0, 1) := by decide +kernel
theorem dL_law_385 : decode cL_law 385 = .ok (.iload_n 3, 1) := by decide +kernel
theorem dL_law_386 : decode cL_law 386 = .ok (.iconst 2, 1) := by decide +kernel
theorem dL_law_387 : decode cL_law 387 = .ok (.iadd, 1) := by decide +kernel
theorem dL_law_388 : decode cL_law 388 = .ok (.iaload, 1) := by decide +kernel
theorem dL_law_389 : decode cL_law 389 = .ok (.invokevirtual 53, 3) := by decide +kernel
theorem dL_law_392 : decode cL_law 392 = .ok (.if_icmp .eq 483, 3) := by decide +kernel
theorem dL_law_395 : decode cL_law 395 = .ok (.iconst 0, 1) := by decide +kernel
theorem dL_law_396 : decode cL_law 396 = .ok (.ireturn, 1) := by decide +kernel
theorem dL_law_397 : decode cL_law 397 = .ok (.aload_n 1, 1) := by decide +kernel
theorem dL_law_398 : decode cL_law 398 = .ok (.aload_n 0, 1) := by decide +kernel
theorem dL_law_399 : decode cL_law 399 = .ok (.iload_n 3, 1) := by decide +kernel
theorem dL_law_400 : decode cL_law 400 = .ok (.iconst 1, 1) := by decide +kernel
theorem dL_law_401 : decode cL_law 401 = .ok (.iadd, 1) := by decide +kernel
theorem dL_law_402 : decode cL_law 402 = .ok (.iaload, 1) := by decide +kernel
theorem dL_law_403 : decode cL_law 403 = .ok (.aload_n 0, 1) := by decide +kernel
theorem dL_law_404 : decode cL_law 404 = .ok (.iload_n 3, 1) := by decide +kernel
theorem dL_law_405 : decode cL_law 405 = .ok (.iconst 2, 1) := by decide +kernel
theorem dL_law_406 : decode cL_law 406 = .ok (.iadd, 1) := by decide +kernel
theorem dL_law_407 : decode cL_law 407 = .ok (.iaload, 1) := by decide +kernel
theorem dL_law_408 : decode cL_law 408 = .ok (.aload_n 0, 1) := by decide +kernel
theorem dL_law_409 : decode cL_law 409 = .ok (.iload_n 3, 1) := by decide +kernel
theorem dL_law_410 : decode cL_law 410 = .ok (.iconst 3, 1) := by decide +kernel
theorem dL_law_411 : decode cL_law 411 = .ok (.iadd, 1) := by decide +kernel
theorem dL_law_412 : decode cL_law 412 = .ok (.iaload, 1) := by decide +kernel
theorem dL_law_413 : decode cL_law 413 = .ok (.invokevirtual 54, 3) := by decide +kernel
theorem dL_law_416 : decode cL_law 416 = .ok (.aload_n 2, 1) := by decide +kernel
theorem dL_law_417 : decode cL_law 417 = .ok (.aload_n 0, 1) := by decide +kernel
theorem dL_law_418 : decode cL_law 418 = .ok (.iload_n 3, 1) := by decide +kernel
theorem dL_law_419 : decode cL_law 419 = .ok (.iconst 1, 1) := by decide +kernel
theorem dL_law_420 : decode cL_law 420 = .ok (.iadd, 1) := by decide +kernel
theorem dL_law_421 : decode cL_law 421 = .ok (.iaload, 1) := by decide +kernel
theorem dL_law_422 : decode cL_law 422 = .ok (.aload_n 0, 1) := by decide +kernel
theorem dL_law_423 : decode cL_law 423 = .ok (.iload_n 3, 1) := by decide +kernel
theorem dL_law_424 : decode cL_law 424 = .ok (.iconst 2, 1) := by decide +kernel
theorem dL_law_425 : decode cL_law 425 = .ok (.iadd, 1) := by decide +kernel
theorem dL_law_426 : decode cL_law 426 = .ok (.iaload, 1) := by decide +kernel
theorem dL_law_427 : decode cL_law 427 = .ok (.aload_n 0, 1) := by decide +kernel
theorem dL_law_428 : decode cL_law 428 = .ok (.iload_n 3, 1) := by decide +kernel
theorem dL_law_429 : decode cL_law 429 = .ok (.iconst 3, 1) := by decide +kernel
theorem dL_law_430 : decode cL_law 430 = .ok (.iadd, 1) := by decide +kernel
theorem dL_law_431 : decode cL_law 431 = .ok (.iaload, 1) := by decide +kernel
theorem dL_law_432 : decode cL_law 432 = .ok (.invokevirtual 58, 3) := by decide +kernel
theorem dL_law_435 : decode cL_law 435 = .ok (.if_icmp .eq 440, 3) := by decide +kernel
theorem dL_law_438 : decode cL_law 438 = .ok (.iconst 0, 1) := by decide +kernel
theorem dL_law_439 : decode cL_law 439 = .ok (.ireturn, 1) := by decide +kernel
theorem dL_law_440 : decode cL_law 440 = .ok (.aload_n 1, 1) := by decide +kernel
theorem dL_law_441 : decode cL_law 441 = .ok (.invokevirtual 59, 3) := by decide +kernel
theorem dL_law_444 : decode cL_law 444 = .ok (.aload_n 2, 1) := by decide +kernel
theorem dL_law_445 : decode cL_law 445 = .ok (.invokevirtual 62, 3) := by decide +kernel
theorem dL_law_448 : decode cL_law 448 = .ok (.if_icmp .eq 427, 3) := by decide +kernel
theorem dL_law_451 : decode cL_law 451 = .ok (.iconst 0, 1) := by decide +kernel
theorem dL_law_452 : decode cL_law 452 = .ok (.ireturn, 1) := by decide +kernel
theorem dL_law_453 : decode cL_law 453 = .ok (.aload_n 1, 1) := by decide +kernel
theorem dL_law_454 : decode cL_law 454 = .ok (.invokevirtual 63, 3) := by decide +kernel
theorem dL_law_457 : decode cL_law 457 = .ok (.aload_n 2, 1) := by decide +kernel
theorem dL_law_458 : decode cL_law 458 = .ok (.invokevirtual 66, 3) := by decide +kernel
theorem dL_law_461 : decode cL_law 461 = .ok (.if_icmp .eq 414, 3) := by decide +kernel
theorem dL_law_464 : decode cL_law 464 = .ok (.iconst 0, 1) := by decide +kernel
theorem dL_law_465 : decode cL_law 465 = .ok (.ireturn, 1) := by decide +kernel
theorem dL_law_466 : decode cL_law 466 = .ok (.aload_n 1, 1) := by decide +kernel
theorem dL_law_467 : decode cL_law 467 = .ok (.aload_n 0, 1) := by decide +kernel
theorem dL_law_468 : decode cL_law 468 = .ok (.iload_n 3, 1) := by decide +kernel
theorem dL_law_469 : decode cL_law 469 = .ok (.iconst 1, 1) := by decide +kernel
theorem dL_law_470 : decode cL_law 470 = .ok (.iadd, 1) := by decide +kernel
theorem dL_law_471 : decode cL_law 471 = .ok (.iaload, 1) := by decide +kernel
theorem dL_law_472 : decode cL_law 472 = .ok (.aload_n 0, 1) := by decide +kernel
theorem dL_law_473 : decode cL_law 473 = .ok (.iload_n 3, 1) := by decide +kernel
theorem dL_law_474 : decode cL_law 474 = .ok (.iconst 2, 1) := by decide +kernel
theorem dL_law_475 : decode cL_law 475 = .ok (.iadd, 1) := by decide +kernel
theorem dL_law_476 : decode cL_law 476 = .ok (.iaload, 1) := by decide +kernel
theorem dL_law_477 : decode cL_law 477 = .ok (.invokevirtual 67, 3) := by decide +kernel
theorem dL_law_480 : decode cL_law 480 = .ok (.aload_n 2, 1) := by decide +kernel
theorem dL_law_481 : decode cL_law 481 = .ok (.aload_n 0, 1) := by decide +kernel
theorem dL_law_482 : decode cL_law 482 = .ok (.iload_n 3, 1) := by decide +kernel
theorem dL_law_483 : decode cL_law 483 = .ok (.iconst 1, 1) := by decide +kernel
theorem dL_law_484 : decode cL_law 484 = .ok (.iadd, 1) := by decide +kernel
theorem dL_law_485 : decode cL_law 485 = .ok (.iaload, 1) := by decide +kernel
theorem dL_law_486 : decode cL_law 486 = .ok (.aload_n 0, 1) := by decide +kernel
theorem dL_law_487 : decode cL_law 487 = .ok (.iload_n 3, 1) := by decide +kernel
theorem dL_law_488 : decode cL_law 488 = .ok (.iconst 2, 1) := by decide +kernel
theorem dL_law_489 : decode cL_law 489 = .ok (.iadd, 1) := by decide +kernel
theorem dL_law_490 : decode cL_law 490 = .ok (.iaload, 1) := by decide +kernel
theorem dL_law_491 : decode cL_law 491 = .ok (.invokevirtual 70, 3) := by decide +kernel
theorem dL_law_494 : decode cL_law 494 = .ok (.if_icmp .eq 381, 3) := by decide +kernel
theorem dL_law_497 : decode cL_law 497 = .ok (.iconst 0, 1) := by decide +kernel
theorem dL_law_498 : decode cL_law 498 = .ok (.ireturn, 1) := by decide +kernel
theorem dL_law_499 : decode cL_law 499 = .ok (.aload_n 1, 1) := by decide +kernel
theorem dL_law_500 : decode cL_law 500 = .ok (.aload_n 0, 1) := by decide +kernel
theorem dL_law_501 : decode cL_law 501 = .ok (.iload_n 3, 1) := by decide +kernel
theorem dL_law_502 : decode cL_law 502 = .ok (.iconst 1, 1) := by decide +kernel
theorem dL_law_503 : decode cL_law 503 = .ok (.iadd, 1) := by decide +kernel
theorem dL_law_504 : decode cL_law 504 = .ok (.iaload, 1) := by decide +kernel
theorem dL_law_505 : decode cL_law 505 = .ok (.aload_n 0, 1) := by decide +kernel
theorem dL_law_506 : decode cL_law 506 = .ok (.iload_n 3, 1) := by decide +kernel
theorem dL_law_507 : decode cL_law 507 = .ok (.iconst 2, 1) := by decide +kernel
theorem dL_law_508 : decode cL_law 508 = .ok (.iadd, 1) := by decide +kernel
theorem dL_law_509 : decode cL_law 509 = .ok (.iaload, 1) := by decide +kernel
theorem dL_law_510 : decode cL_law 510 = .ok (.aload_n 0, 1) := by decide +kernel
theorem dL_law_511 : decode cL_law 511 = .ok (.iload_n 3, 1) := by decide +kernel
theorem dL_law_512 : decode cL_law 512 = .ok (.iconst 3, 1) := by decide +kernel
theorem dL_law_513 : decode cL_law 513 = .ok (.iadd, 1) := by decide +kernel
theorem dL_law_514 : decode cL_law 514 = .ok (.iaload, 1) := by decide +kernel
theorem dL_law_515 : decode cL_law 515 = .ok (.aload_n 0, 1) := by decide +kernel
theorem dL_law_516 : decode cL_law 516 = .ok (.iload_n 3, 1) := by decide +kernel
theorem dL_law_517 : decode cL_law 517 = .ok (.iconst 4, 1) := by decide +kernel
theorem dL_law_518 : decode cL_law 518 = .ok (.iadd, 1) := by decide +kernel
theorem dL_law_519 : decode cL_law 519 = .ok (.iaload, 1) := by decide +kernel
theorem dL_law_520 : decode cL_law 520 = .ok (.aload_n 0, 1) := by decide +kernel
theorem dL_law_521 : decode cL_law 521 = .ok (.iload_n 3, 1) := by decide +kernel
theorem dL_law_522 : decode cL_law 522 = .ok (.iconst 5, 1) := by decide +kernel
theorem dL_law_523 : decode cL_law 523 = .ok (.iadd, 1) := by decide +kernel
theorem dL_law_524 : decode cL_law 524 = .ok (.iaload, 1) := by decide +kernel
theorem dL_law_525 : decode cL_law 525 = .ok (.ifCond .eq 7, 3) := by decide +kernel
theorem dL_law_528 : decode cL_law 528 = .ok (.iconst 1, 1) := by decide +kernel
