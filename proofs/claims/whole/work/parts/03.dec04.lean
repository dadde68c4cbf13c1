theorem dX11_sign_239 : decode cX11_sign 239 = .ok (.getfield 212, 3) := by decide +kernel
theorem dX11_sign_242 : decode cX11_sign 242 = .ok (.iconst 1, 1) := by decide +kernel
theorem dX11_sign_243 : decode cX11_sign 243 = .ok (.isub, 1) := by decide +kernel
theorem dX11_sign_244 : decode cX11_sign 244 = .ok (.putfield 212, 3) := by decide +kernel
theorem dX11_sign_247 : decode cX11_sign 247 = .ok (.aload_n 0, 1) := by decide +kernel
theorem dX11_sign_248 : decode cX11_sign 248 = .ok (.invokevirtual 206, 3) := by decide +kernel
theorem dX11_sign_251 : decode cX11_sign 251 = .ok (.iconst 5, 1) := by decide +kernel
theorem dX11_sign_252 : decode cX11_sign 252 = .ok (.ireturn, 1) := by decide +kernel
theorem dX11_sign_253 : decode cX11_sign 253 = .ok (.aload_n 0, 1) := by decide +kernel
theorem dX11_sign_254 : decode cX11_sign 254 = .ok (.iconst 2, 1) := by decide +kernel
theorem dX11_sign_255 : decode cX11_sign 255 = .ok (.invokevirtual 203, 3) := by decide +kernel
theorem dX11_sign_258 : decode cX11_sign 258 = .ok (.iload_n 1, 1) := by decide +kernel
theorem dX11_sign_259 : decode cX11_sign 259 = .ok (.ireturn, 1) := by decide +kernel
theorem dX11_settleOnes_0 : decode cX11_settleOnes 0 = .ok (.iconst 1, 1) := by decide +kernel
theorem dX11_settleOnes_1 : decode cX11_settleOnes 1 = .ok (.istore_n 2, 1) := by decide +kernel
theorem dX11_settleOnes_2 : decode cX11_settleOnes 2 = .ok (.iload_n 2, 1) := by decide +kernel
theorem dX11_settleOnes_3 : decode cX11_settleOnes 3 = .ok (.ifCond .eq 60, 3) := by decide +kernel
theorem dX11_settleOnes_6 : decode cX11_settleOnes 6 = .ok (.aload_n 0, 1) := by decide +kernel
theorem dX11_settleOnes_7 : decode cX11_settleOnes 7 = .ok (.getfield 209, 3) := by decide +kernel
theorem dX11_settleOnes_10 : decode cX11_settleOnes 10 = .ok (.ifCond .ne 8, 3) := by decide +kernel
theorem dX11_settleOnes_13 : decode cX11_settleOnes 13 = .ok (.bipush 28, 2) := by decide +kernel
theorem dX11_settleOnes_15 : decode cX11_settleOnes 15 = .ok (.goto 14, 3) := by decide +kernel
theorem dX11_settleOnes_18 : decode cX11_settleOnes 18 = .ok (.aload_n 0, 1) := by decide +kernel
theorem dX11_settleOnes_19 : decode cX11_settleOnes 19 = .ok (.getfield 50, 3) := by decide +kernel
theorem dX11_settleOnes_22 : decode cX11_settleOnes 22 = .ok (.aload_n 0, 1) := by decide +kernel
theorem dX11_settleOnes_23 : decode cX11_settleOnes 23 = .ok (.getfield 209, 3) := by decide +kernel
theorem dX11_settleOnes_26 : decode cX11_settleOnes 26 = .ok (.iconst 1, 1) := by decide +kernel
theorem dX11_settleOnes_27 : decode cX11_settleOnes 27 = .ok (.isub, 1) := by decide +kernel
theorem dX11_settleOnes_28 : decode cX11_settleOnes 28 = .ok (.iaload, 1) := by decide +kernel
theorem dX11_settleOnes_29 : decode cX11_settleOnes 29 = .ok (.istore_n 3, 1) := by decide +kernel
theorem dX11_settleOnes_30 : decode cX11_settleOnes 30 = .ok (.iload_n 3, 1) := by decide +kernel
theorem dX11_settleOnes_31 : decode cX11_settleOnes 31 = .ok (.bipush 28, 2) := by decide +kernel
theorem dX11_settleOnes_33 : decode cX11_settleOnes 33 = .ok (.if_icmp .eq 17, 3) := by decide +kernel
theorem dX11_settleOnes_36 : decode cX11_settleOnes 36 = .ok (.iload_n 1, 1) := by decide +kernel
theorem dX11_settleOnes_37 : decode cX11_settleOnes 37 = .ok (.ifCond .eq 9, 3) := by decide +kernel
theorem dX11_settleOnes_40 : decode cX11_settleOnes 40 = .ok (.iload_n 3, 1) := by decide +kernel
theorem dX11_settleOnes_41 : decode cX11_settleOnes 41 = .ok (.bipush 21, 2) := by decide +kernel
theorem dX11_settleOnes_43 : decode cX11_settleOnes 43 = .ok (.if_icmp .eq 7, 3) := by decide +kernel
theorem dX11_settleOnes_46 : decode cX11_settleOnes 46 = .ok (.iconst 1, 1) := by decide +kernel
theorem dX11_settleOnes_47 : decode cX11_settleOnes 47 = .ok (.goto 4, 3) := by decide +kernel
theorem dX11_settleOnes_50 : decode cX11_settleOnes 50 = .ok (.iconst 0, 1) := by decide +kernel
theorem dX11_settleOnes_51 : decode cX11_settleOnes 51 = .ok (.istore_n 2, 1) := by decide +kernel
theorem dX11_settleOnes_52 : decode cX11_settleOnes 52 = .ok (.iload_n 2, 1) := by decide +kernel
theorem dX11_settleOnes_53 : decode cX11_settleOnes 53 = .ok (.ifCond .eq 7, 3) := by decide +kernel
theorem dX11_settleOnes_56 : decode cX11_settleOnes 56 = .ok (.aload_n 0, 1) := by decide +kernel
theorem dX11_settleOnes_57 : decode cX11_settleOnes 57 = .ok (.invokevirtual 219, 3) := by decide +kernel
theorem dX11_settleOnes_60 : decode cX11_settleOnes 60 = .ok (.goto (-58), 3) := by decide +kernel
theorem dX11_settleOnes_63 : decode cX11_settleOnes 63 = .ok (.return_, 1) := by decide +kernel
theorem dX11_begin_0 : decode cX11_begin 0 = .ok (.aload_n 0, 1) := by decide +kernel
theorem dX11_begin_1 : decode cX11_begin 1 = .ok (.aload_n 0, 1) := by decide +kernel
theorem dX11_begin_2 : decode cX11_begin 2 = .ok (.getfield 147, 3) := by decide +kernel
theorem dX11_begin_5 : decode cX11_begin 5 = .ok (.putfield 157, 3) := by decide +kernel
theorem dX11_begin_8 : decode cX11_begin 8 = .ok (.aload_n 0, 1) := by decide +kernel
theorem dX11_begin_9 : decode cX11_begin 9 = .ok (.iconst 0, 1) := by decide +kernel
theorem dX11_begin_10 : decode cX11_begin 10 = .ok (.putfield 147, 3) := by decide +kernel
theorem dX11_begin_13 : decode cX11_begin 13 = .ok (.aload_n 0, 1) := by decide +kernel
theorem dX11_begin_14 : decode cX11_begin 14 = .ok (.iconst 0, 1) := by decide +kernel
theorem dX11_begin_15 : decode cX11_begin 15 = .ok (.putfield 154, 3) := by decide +kernel
theorem dX11_begin_18 : decode cX11_begin 18 = .ok (.aload_n 0, 1) := by decide +kernel
theorem dX11_begin_19 : decode cX11_begin 19 = .ok (.iconst 0, 1) := by decide +kernel
theorem dX11_begin_20 : decode cX11_begin 20 = .ok (.putfield 187, 3) := by decide +kernel
theorem dX11_begin_23 : decode cX11_begin 23 = .ok (.aload_n 0, 1) := by decide +kernel
theorem dX11_begin_24 : decode cX11_begin 24 = .ok (.iconst (-1), 1) := by decide +kernel
theorem dX11_begin_25 : decode cX11_begin 25 = .ok (.putfield 16, 3) := by decide +kernel
theorem dX11_begin_28 : decode cX11_begin 28 = .ok (.return_, 1) := by decide +kernel
theorem dX11_grades_0 : decode cX11_grades 0 = .ok (.aload_n 0, 1) := by decide +kernel
theorem dX11_grades_1 : decode cX11_grades 1 = .ok (.invokevirtual 259, 3) := by decide +kernel
theorem dX11_grades_4 : decode cX11_grades 4 = .ok (.aload_n 0, 1) := by decide +kernel
theorem dX11_grades_5 : decode cX11_grades 5 = .ok (.iconst 0, 1) := by decide +kernel
theorem dX11_grades_6 : decode cX11_grades 6 = .ok (.putfield 262, 3) := by decide +kernel
theorem dX11_grades_9 : decode cX11_grades 9 = .ok (.aload_n 0, 1) := by decide +kernel
theorem dX11_grades_10 : decode cX11_grades 10 = .ok (.iconst 0, 1) := by decide +kernel
theorem dX11_grades_11 : decode cX11_grades 11 = .ok (.putfield 200, 3) := by decide +kernel
theorem dX11_grades_14 : decode cX11_grades 14 = .ok (.aload_n 0, 1) := by decide +kernel
theorem dX11_grades_15 : decode cX11_grades 15 = .ok (.iconst 0, 1) := by decide +kernel
theorem dX11_grades_16 : decode cX11_grades 16 = .ok (.putfield 245, 3) := by decide +kernel
theorem dX11_grades_19 : decode cX11_grades 19 = .ok (.aload_n 0, 1) := by decide +kernel
theorem dX11_grades_20 : decode cX11_grades 20 = .ok (.invokevirtual 206, 3) := by decide +kernel
theorem dX11_grades_23 : decode cX11_grades 23 = .ok (.aload_n 0, 1) := by decide +kernel
theorem dX11_grades_24 : decode cX11_grades 24 = .ok (.getfield 187, 3) := by decide +kernel
theorem dX11_grades_27 : decode cX11_grades 27 = .ok (.ifCond .ne 206, 3) := by decide +kernel
theorem dX11_grades_30 : decode cX11_grades 30 = .ok (.aload_n 0, 1) := by decide +kernel
theorem dX11_grades_31 : decode cX11_grades 31 = .ok (.getfield 174, 3) := by decide +kernel
theorem dX11_grades_34 : decode cX11_grades 34 = .ok (.ifCond .eq 199, 3) := by decide +kernel
theorem dX11_grades_37 : decode cX11_grades 37 = .ok (.aload_n 0, 1) := by decide +kernel
theorem dX11_grades_38 : decode cX11_grades 38 = .ok (.ldc2_w 265, 3) := by decide +kernel
theorem dX11_grades_41 : decode cX11_grades 41 = .ok (.invokevirtual 241, 3) := by decide +kernel
theorem dX11_grades_44 : decode cX11_grades 44 = .ok (.ifCond .eq 12, 3) := by decide +kernel
theorem dX11_grades_47 : decode cX11_grades 47 = .ok (.aload_n 0, 1) := by decide +kernel
theorem dX11_grades_48 : decode cX11_grades 48 = .ok (.getfield 262, 3) := by decide +kernel
theorem dX11_grades_51 : decode cX11_grades 51 = .ok (.bipush 8, 2) := by decide +kernel
theorem dX11_grades_53 : decode cX11_grades 53 = .ok (.if_icmp .ne 8, 3) := by decide +kernel
theorem dX11_grades_56 : decode cX11_grades 56 = .ok (.aload_n 0, 1) := by decide +kernel
theorem dX11_grades_57 : decode cX11_grades 57 = .ok (.iconst 2, 1) := by decide +kernel
theorem dX11_grades_58 : decode cX11_grades 58 = .ok (.invokevirtual 203, 3) := by decide +kernel
theorem dX11_grades_61 : decode cX11_grades 61 = .ok (.aload_n 0, 1) := by decide +kernel
theorem dX11_grades_62 : decode cX11_grades 62 = .ok (.getfield 187, 3) := by decide +kernel
theorem dX11_grades_65 : decode cX11_grades 65 = .ok (.ifCond .le 5, 3) := by decide +kernel
theorem dX11_grades_68 : decode cX11_grades 68 = .ok (.iconst (-1), 1) := by decide +kernel
theorem dX11_grades_69 : decode cX11_grades 69 = .ok (.ireturn, 1) := by decide +kernel
theorem dX11_grades_70 : decode cX11_grades 70 = .ok (.aload_n 0, 1) := by decide +kernel
theorem dX11_grades_71 : decode cX11_grades 71 = .ok (.invokevirtual 206, 3) := by decide +kernel
theorem dX11_grades_74 : decode cX11_grades 74 = .ok (.aload_n 0, 1) := by decide +kernel
theorem dX11_grades_75 : decode cX11_grades 75 = .ok (.iconst 1, 1) := by decide +kernel
theorem dX11_grades_76 : decode cX11_grades 76 = .ok (.bipush 100, 2) := by decide +kernel
theorem dX11_grades_78 : decode cX11_grades 78 = .ok (.invokevirtual 267, 3) := by decide +kernel
theorem dX11_grades_81 : decode cX11_grades 81 = .ok (.istore_n 1, 1) := by decide +kernel
theorem dX11_grades_82 : decode cX11_grades 82 = .ok (.aload_n 0, 1) := by decide +kernel
theorem dX11_grades_83 : decode cX11_grades 83 = .ok (.getfield 187, 3) := by decide +kernel
theorem dX11_grades_86 : decode cX11_grades 86 = .ok (.ifCond .ne 18, 3) := by decide +kernel
theorem dX11_grades_89 : decode cX11_grades 89 = .ok (.aload_n 0, 1) := by decide +kernel
theorem dX11_grades_90 : decode cX11_grades 90 = .ok (.ldc2_w 271, 3) := by decide +kernel
theorem dX11_grades_93 : decode cX11_grades 93 = .ok (.invokevirtual 241, 3) := by decide +kernel
theorem dX11_grades_96 : decode cX11_grades 96 = .ok (.ifCond .ne 8, 3) := by decide +kernel
theorem dX11_grades_99 : decode cX11_grades 99 = .ok (.aload_n 0, 1) := by decide +kernel
theorem dX11_grades_100 : decode cX11_grades 100 = .ok (.iconst 2, 1) := by decide +kernel
theorem dX11_grades_101 : decode cX11_grades 101 = .ok (.invokevirtual 203, 3) := by decide +kernel
theorem dX11_grades_104 : decode cX11_grades 104 = .ok (.aload_n 0, 1) := by decide +kernel
theorem dX11_grades_105 : decode cX11_grades 105 = .ok (.getfield 187, 3) := by decide +kernel
theorem dX11_grades_108 : decode cX11_grades 108 = .ok (.ifCond .le 5, 3) := by decide +kernel
theorem dX11_grades_111 : decode cX11_grades 111 = .ok (.iconst (-1), 1) := by decide +kernel
theorem dX11_grades_112 : decode cX11_grades 112 = .ok (.ireturn, 1) := by decide +kernel
theorem dX11_grades_113 : decode cX11_grades 113 = .ok (.aload_n 0, 1) := by decide +kernel
theorem dX11_grades_114 : decode cX11_grades 114 = .ok (.invokevirtual 206, 3) := by decide +kernel
theorem dX11_grades_117 : decode cX11_grades 117 = .ok (.aload_n 0, 1) := by decide +kernel
theorem dX11_grades_118 : decode cX11_grades 118 = .ok (.iconst 1, 1) := by decide +kernel
theorem dX11_grades_119 : decode cX11_grades 119 = .ok (.sipush 9999, 3) := by decide +kernel
theorem dX11_grades_122 : decode cX11_grades 122 = .ok (.invokevirtual 267, 3) := by decide +kernel
theorem dX11_grades_125 : decode cX11_grades 125 = .ok (.istore_n 2, 1) := by decide +kernel
theorem dX11_grades_126 : decode cX11_grades 126 = .ok (.aload_n 0, 1) := by decide +kernel
theorem dX11_grades_127 : decode cX11_grades 127 = .ok (.getfield 187, 3) := by decide +kernel
theorem dX11_grades_130 : decode cX11_grades 130 = .ok (.ifCond .le 5, 3) := by decide +kernel
theorem dX11_grades_133 : decode cX11_grades 133 = .ok (.iconst (-1), 1) := by decide +kernel
theorem dX11_grades_134 : decode cX11_grades 134 = .ok (.ireturn, 1) := by decide +kernel
theorem dX11_grades_135 : decode cX11_grades 135 = .ok (.aload_n 0, 1) := by decide +kernel
theorem dX11_grades_136 : decode cX11_grades 136 = .ok (.getfield 35, 3) := by decide +kernel
theorem dX11_grades_139 : decode cX11_grades 139 = .ok (.aload_n 0, 1) := by decide +kernel
theorem dX11_grades_140 : decode cX11_grades 140 = .ok (.getfield 262, 3) := by decide +kernel
theorem dX11_grades_143 : decode cX11_grades 143 = .ok (.iload_n 1, 1) := by decide +kernel
theorem dX11_grades_144 : decode cX11_grades 144 = .ok (.iastore, 1) := by decide +kernel
theorem dX11_grades_145 : decode cX11_grades 145 = .ok (.aload_n 0, 1) := by decide +kernel
theorem dX11_grades_146 : decode cX11_grades 146 = .ok (.getfield 38, 3) := by decide +kernel
theorem dX11_grades_149 : decode cX11_grades 149 = .ok (.aload_n 0, 1) := by decide +kernel
theorem dX11_grades_150 : decode cX11_grades 150 = .ok (.getfield 262, 3) := by decide +kernel
theorem dX11_grades_153 : decode cX11_grades 153 = .ok (.iload_n 2, 1) := by decide +kernel
theorem dX11_grades_154 : decode cX11_grades 154 = .ok (.iastore, 1) := by decide +kernel
theorem dX11_grades_155 : decode cX11_grades 155 = .ok (.aload_n 0, 1) := by decide +kernel
theorem dX11_grades_156 : decode cX11_grades 156 = .ok (.getfield 47, 3) := by decide +kernel
theorem dX11_grades_159 : decode cX11_grades 159 = .ok (.aload_n 0, 1) := by decide +kernel
theorem dX11_grades_160 : decode cX11_grades 160 = .ok (.getfield 262, 3) := by decide +kernel
theorem dX11_grades_163 : decode cX11_grades 163 = .ok (.aload_n 0, 1) := by decide +kernel
theorem dX11_grades_164 : decode cX11_grades 164 = .ok (.getfield 200, 3) := by decide +kernel
theorem dX11_grades_167 : decode cX11_grades 167 = .ok (.iastore, 1) := by decide +kernel
theorem dX11_grades_168 : decode cX11_grades 168 = .ok (.aload_n 0, 1) := by decide +kernel
theorem dX11_grades_169 : decode cX11_grades 169 = .ok (.ldc2_w 273, 3) := by decide +kernel
theorem dX11_grades_172 : decode cX11_grades 172 = .ok (.invokevirtual 241, 3) := by decide +kernel
theorem dX11_grades_175 : decode cX11_grades 175 = .ok (.ifCond .eq 11, 3) := by decide +kernel
theorem dX11_grades_178 : decode cX11_grades 178 = .ok (.aload_n 0, 1) := by decide +kernel
theorem dX11_grades_179 : decode cX11_grades 179 = .ok (.invokevirtual 206, 3) := by decide +kernel
theorem dX11_grades_182 : decode cX11_grades 182 = .ok (.aload_n 0, 1) := by decide +kernel
theorem dX11_grades_183 : decode cX11_grades 183 = .ok (.invokevirtual 275, 3) := by decide +kernel
theorem dX11_grades_186 : decode cX11_grades 186 = .ok (.aload_n 0, 1) := by decide +kernel
theorem dX11_grades_187 : decode cX11_grades 187 = .ok (.getfield 187, 3) := by decide +kernel
theorem dX11_grades_190 : decode cX11_grades 190 = .ok (.ifCond .ne 17, 3) := by decide +kernel
theorem dX11_grades_193 : decode cX11_grades 193 = .ok (.aload_n 0, 1) := by decide +kernel
theorem dX11_grades_194 : decode cX11_grades 194 = .ok (.getfield 174, 3) := by decide +kernel
theorem dX11_grades_197 : decode cX11_grades 197 = .ok (.bipush 59, 2) := by decide +kernel
theorem dX11_grades_199 : decode cX11_grades 199 = .ok (.if_icmp .eq 8, 3) := by decide +kernel
theorem dX11_grades_202 : decode cX11_grades 202 = .ok (.aload_n 0, 1) := by decide +kernel
theorem dX11_grades_203 : decode cX11_grades 203 = .ok (.iconst 2, 1) := by decide +kernel
theorem dX11_grades_204 : decode cX11_grades 204 = .ok (.invokevirtual 203, 3) := by decide +kernel
theorem dX11_grades_207 : decode cX11_grades 207 = .ok (.aload_n 0, 1) := by decide +kernel
theorem dX11_grades_208 : decode cX11_grades 208 = .ok (.getfield 187, 3) := by decide +kernel
theorem dX11_grades_211 : decode cX11_grades 211 = .ok (.ifCond .le 5, 3) := by decide +kernel
theorem dX11_grades_214 : decode cX11_grades 214 = .ok (.iconst (-1), 1) := by decide +kernel
theorem dX11_grades_215 : decode cX11_grades 215 = .ok (.ireturn, 1) := by decide +kernel
theorem dX11_grades_216 : decode cX11_grades 216 = .ok (.aload_n 0, 1) := by decide +kernel
theorem dX11_grades_217 : decode cX11_grades 217 = .ok (.invokevirtual 206, 3) := by decide +kernel
theorem dX11_grades_220 : decode cX11_grades 220 = .ok (.aload_n 0, 1) := by decide +kernel
theorem dX11_grades_221 : decode cX11_grades 221 = .ok (.dup, 1) := by decide +kernel
theorem dX11_grades_222 : decode cX11_grades 222 = .ok (.getfield 262, 3) := by decide +kernel
theorem dX11_grades_225 : decode cX11_grades 225 = .ok (.iconst 1, 1) := by decide +kernel
theorem dX11_grades_226 : decode cX11_grades 226 = .ok (.iadd, 1) := by decide +kernel
theorem dX11_grades_227 : decode cX11_grades 227 = .ok (.putfield 262, 3) := by decide +kernel
theorem dX11_grades_230 : decode cX11_grades 230 = .ok (.goto (-207), 3) := by decide +kernel
theorem dX11_grades_233 : decode cX11_grades 233 = .ok (.aload_n 0, 1) := by decide +kernel
theorem dX11_grades_234 : decode cX11_grades 234 = .ok (.getfield 187, 3) := by decide +kernel
theorem dX11_grades_237 : decode cX11_grades 237 = .ok (.ifCond .le 5, 3) := by decide +kernel
theorem dX11_grades_240 : decode cX11_grades 240 = .ok (.iconst (-1), 1) := by decide +kernel
theorem dX11_grades_241 : decode cX11_grades 241 = .ok (.ireturn, 1) := by decide +kernel
theorem dX11_grades_242 : decode cX11_grades 242 = .ok (.aload_n 0, 1) := by decide +kernel
theorem dX11_grades_243 : decode cX11_grades 243 = .ok (.getfield 47, 3) := by decide +kernel
theorem dX11_grades_246 : decode cX11_grades 246 = .ok (.aload_n 0, 1) := by decide +kernel
theorem dX11_grades_247 : decode cX11_grades 247 = .ok (.getfield 262, 3) := by decide +kernel
theorem dX11_grades_250 : decode cX11_grades 250 = .ok (.aload_n 0, 1) := by decide +kernel
theorem dX11_grades_251 : decode cX11_grades 251 = .ok (.getfield 200, 3) := by decide +kernel
theorem dX11_grades_254 : decode cX11_grades 254 = .ok (.iastore, 1) := by decide +kernel
theorem dX11_grades_255 : decode cX11_grades 255 = .ok (.iconst 0, 1) := by decide +kernel
theorem dX11_grades_256 : decode cX11_grades 256 = .ok (.istore_n 1, 1) := by decide +kernel
theorem dX11_grades_257 : decode cX11_grades 257 = .ok (.iload_n 1, 1) := by decide +kernel
theorem dX11_grades_258 : decode cX11_grades 258 = .ok (.aload_n 0, 1) := by decide +kernel
theorem dX11_grades_259 : decode cX11_grades 259 = .ok (.getfield 200, 3) := by decide +kernel
theorem dX11_grades_262 : decode cX11_grades 262 = .ok (.if_icmp .ge 33, 3) := by decide +kernel
theorem dX11_grades_265 : decode cX11_grades 265 = .ok (.aload_n 0, 1) := by decide +kernel
theorem dX11_grades_266 : decode cX11_grades 266 = .ok (.getfield 26, 3) := by decide +kernel
theorem dX11_grades_269 : decode cX11_grades 269 = .ok (.iload_n 1, 1) := by decide +kernel
theorem dX11_grades_270 : decode cX11_grades 270 = .ok (.aload_n 0, 1) := by decide +kernel
theorem dX11_grades_271 : decode cX11_grades 271 = .ok (.getfield 41, 3) := by decide +kernel
theorem dX11_grades_274 : decode cX11_grades 274 = .ok (.iload_n 1, 1) := by decide +kernel
theorem dX11_grades_275 : decode cX11_grades 275 = .ok (.iaload, 1) := by decide +kernel
theorem dX11_grades_276 : decode cX11_grades 276 = .ok (.iastore, 1) := by decide +kernel
theorem dX11_grades_277 : decode cX11_grades 277 = .ok (.aload_n 0, 1) := by decide +kernel
theorem dX11_grades_278 : decode cX11_grades 278 = .ok (.getfield 29, 3) := by decide +kernel
theorem dX11_grades_281 : decode cX11_grades 281 = .ok (.iload_n 1, 1) := by decide +kernel
theorem dX11_grades_282 : decode cX11_grades 282 = .ok (.aload_n 0, 1) := by decide +kernel
theorem dX11_grades_283 : decode cX11_grades 283 = .ok (.getfield 44, 3) := by decide +kernel
theorem dX11_grades_286 : decode cX11_grades 286 = .ok (.iload_n 1, 1) := by decide +kernel
theorem dX11_grades_287 : decode cX11_grades 287 = .ok (.iaload, 1) := by decide +kernel
theorem dX11_grades_288 : decode cX11_grades 288 = .ok (.iastore, 1) := by decide +kernel
theorem dX11_grades_289 : decode cX11_grades 289 = .ok (.iinc 1 1, 3) := by decide +kernel
theorem dX11_grades_292 : decode cX11_grades 292 = .ok (.goto (-35), 3) := by decide +kernel
theorem dX11_grades_295 : decode cX11_grades 295 = .ok (.iconst 0, 1) := by decide +kernel
theorem dX11_grades_296 : decode cX11_grades 296 = .ok (.istore_n 1, 1) := by decide +kernel
theorem dX11_grades_297 : decode cX11_grades 297 = .ok (.iload_n 1, 1) := by decide +kernel
theorem dX11_grades_298 : decode cX11_grades 298 = .ok (.aload_n 0, 1) := by decide +kernel
theorem dX11_grades_299 : decode cX11_grades 299 = .ok (.getfield 262, 3) := by decide +kernel
theorem dX11_grades_302 : decode cX11_grades 302 = .ok (.if_icmp .ge 33, 3) := by decide +kernel
theorem dX11_grades_305 : decode cX11_grades 305 = .ok (.aload_n 0, 1) := by decide +kernel
theorem dX11_grades_306 : decode cX11_grades 306 = .ok (.getfield 20, 3) := by decide +kernel
theorem dX11_grades_309 : decode cX11_grades 309 = .ok (.iload_n 1, 1) := by decide +kernel
theorem dX11_grades_310 : decode cX11_grades 310 = .ok (.aload_n 0, 1) := by decide +kernel
theorem dX11_grades_311 : decode cX11_grades 311 = .ok (.getfield 35, 3) := by decide +kernel
theorem dX11_grades_314 : decode cX11_grades 314 = .ok (.iload_n 1, 1) := by decide +kernel
theorem dX11_grades_315 : decode cX11_grades 315 = .ok (.iaload, 1) := by decide +kernel
theorem dX11_grades_316 : decode cX11_grades 316 = .ok (.iastore, 1) := by decide +kernel
theorem dX11_grades_317 : decode cX11_grades 317 = .ok (.aload_n 0, 1) := by decide +kernel
theorem dX11_grades_318 : decode cX11_grades 318 = .ok (.getfield 23, 3) := by decide +kernel
theorem dX11_grades_321 : decode cX11_grades 321 = .ok (.iload_n 1, 1) := by decide +kernel
theorem dX11_grades_322 : decode cX11_grades 322 = .ok (.aload_n 0, 1) := by decide +kernel
theorem dX11_grades_323 : decode cX11_grades 323 = .ok (.getfield 38, 3) := by decide +kernel
theorem dX11_grades_326 : decode cX11_grades 326 = .ok (.iload_n 1, 1) := by decide +kernel
theorem dX11_grades_327 : decode cX11_grades 327 = .ok (.iaload, 1) := by decide +kernel
theorem dX11_grades_328 : decode cX11_grades 328 = .ok (.iastore, 1) := by decide +kernel
theorem dX11_grades_329 : decode cX11_grades 329 = .ok (.iinc 1 1, 3) := by decide +kernel
theorem dX11_grades_332 : decode cX11_grades 332 = .ok (.goto (-35), 3) := by decide +kernel
theorem dX11_grades_335 : decode cX11_grades 335 = .ok (.iconst 0, 1) := by decide +kernel
theorem dX11_grades_336 : decode cX11_grades 336 = .ok (.istore_n 1, 1) := by decide +kernel
theorem dX11_grades_337 : decode cX11_grades 337 = .ok (.iload_n 1, 1) := by decide +kernel
theorem dX11_grades_338 : decode cX11_grades 338 = .ok (.aload_n 0, 1) := by decide +kernel
theorem dX11_grades_339 : decode cX11_grades 339 = .ok (.getfield 262, 3) := by decide +kernel
theorem dX11_grades_342 : decode cX11_grades 342 = .ok (.if_icmp .gt 21, 3) := by decide +kernel
theorem dX11_grades_345 : decode cX11_grades 345 = .ok (.aload_n 0, 1) := by decide +kernel
theorem dX11_grades_346 : decode cX11_grades 346 = .ok (.getfield 32, 3) := by decide +kernel
theorem dX11_grades_349 : decode cX11_grades 349 = .ok (.iload_n 1, 1) := by decide +kernel
theorem dX11_grades_350 : decode cX11_grades 350 = .ok (.aload_n 0, 1) := by decide +kernel
theorem dX11_grades_351 : decode cX11_grades 351 = .ok (.getfield 47, 3) := by decide +kernel
theorem dX11_grades_354 : decode cX11_grades 354 = .ok (.iload_n 1, 1) := by decide +kernel
theorem dX11_grades_355 : decode cX11_grades 355 = .ok (.iaload, 1) := by decide +kernel
theorem dX11_grades_356 : decode cX11_grades 356 = .ok (.iastore, 1) := by decide +kernel
theorem dX11_grades_357 : decode cX11_grades 357 = .ok (.iinc 1 1, 3) := by decide +kernel
theorem dX11_grades_360 : decode cX11_grades 360 = .ok (.goto (-23), 3) := by decide +kernel
theorem dX11_grades_363 : decode cX11_grades 363 = .ok (.aload_n 0, 1) := by decide +kernel
theorem dX11_grades_364 : decode cX11_grades 364 = .ok (.aload_n 0, 1) := by decide +kernel
theorem dX11_grades_365 : decode cX11_grades 365 = .ok (.getfield 262, 3) := by decide +kernel
theorem dX11_grades_368 : decode cX11_grades 368 = .ok (.putfield 278, 3) := by decide +kernel
theorem dX11_grades_371 : decode cX11_grades 371 = .ok (.aload_n 0, 1) := by decide +kernel
theorem dX11_grades_372 : decode cX11_grades 372 = .ok (.getfield 278, 3) := by decide +kernel
theorem dX11_grades_375 : decode cX11_grades 375 = .ok (.ireturn, 1) := by decide +kernel
theorem dX11_fault_0 : decode cX11_fault 0 = .ok (.iload_n 1, 1) := by decide +kernel
theorem dX11_fault_1 : decode cX11_fault 1 = .ok (.ifCond .ne 10, 3) := by decide +kernel
theorem dX11_fault_4 : decode cX11_fault 4 = .ok (.aload_n 0, 1) := by decide +kernel
theorem dX11_fault_5 : decode cX11_fault 5 = .ok (.getfield 187, 3) := by decide +kernel
theorem dX11_fault_8 : decode cX11_fault 8 = .ok (.goto 16, 3) := by decide +kernel
theorem dX11_fault_11 : decode cX11_fault 11 = .ok (.iload_n 1, 1) := by decide +kernel
theorem dX11_fault_12 : decode cX11_fault 12 = .ok (.iconst 1, 1) := by decide +kernel
theorem dX11_fault_13 : decode cX11_fault 13 = .ok (.if_icmp .ne 10, 3) := by decide +kernel
theorem dX11_fault_16 : decode cX11_fault 16 = .ok (.aload_n 0, 1) := by decide +kernel
theorem dX11_fault_17 : decode cX11_fault 17 = .ok (.getfield 16, 3) := by decide +kernel
theorem dX11_fault_20 : decode cX11_fault 20 = .ok (.goto 4, 3) := by decide +kernel
theorem dX11_fault_23 : decode cX11_fault 23 = .ok (.iconst (-1), 1) := by decide +kernel
theorem dX11_fault_24 : decode cX11_fault 24 = .ok (.ireturn, 1) := by decide +kernel
theorem dX11_markOf_0 : decode cX11_markOf 0 = .ok (.iload_n 0, 1) := by decide +kernel
theorem dX11_markOf_1 : decode cX11_markOf 1 = .ok (.bipush 46, 2) := by decide +kernel
theorem dX11_markOf_3 : decode cX11_markOf 3 = .ok (.if_icmp .ne 7, 3) := by decide +kernel
theorem dX11_markOf_6 : decode cX11_markOf 6 = .ok (.iconst 4, 1) := by decide +kernel
theorem dX11_markOf_7 : decode cX11_markOf 7 = .ok (.goto 44, 3) := by decide +kernel
theorem dX11_markOf_10 : decode cX11_markOf 10 = .ok (.iload_n 0, 1) := by decide +kernel
theorem dX11_markOf_11 : decode cX11_markOf 11 = .ok (.bipush 107, 2) := by decide +kernel
theorem dX11_markOf_13 : decode cX11_markOf 13 = .ok (.if_icmp .ne 7, 3) := by decide +kernel
theorem dX11_markOf_16 : decode cX11_markOf 16 = .ok (.iconst 0, 1) := by decide +kernel
theorem dX11_markOf_17 : decode cX11_markOf 17 = .ok (.goto 34, 3) := by decide +kernel
theorem dX11_markOf_20 : decode cX11_markOf 20 = .ok (.iload_n 0, 1) := by decide +kernel
theorem dX11_markOf_21 : decode cX11_markOf 21 = .ok (.bipush 115, 2) := by decide +kernel
theorem dX11_markOf_23 : decode cX11_markOf 23 = .ok (.if_icmp .ne 7, 3) := by decide +kernel
theorem dX11_markOf_26 : decode cX11_markOf 26 = .ok (.iconst 1, 1) := by decide +kernel
theorem dX11_markOf_27 : decode cX11_markOf 27 = .ok (.goto 24, 3) := by decide +kernel
theorem dX11_markOf_30 : decode cX11_markOf 30 = .ok (.iload_n 0, 1) := by decide +kernel
theorem dX11_markOf_31 : decode cX11_markOf 31 = .ok (.bipush 111, 2) := by decide +kernel
theorem dX11_markOf_33 : decode cX11_markOf 33 = .ok (.if_icmp .ne 7, 3) := by decide +kernel
theorem dX11_markOf_36 : decode cX11_markOf 36 = .ok (.iconst 2, 1) := by decide +kernel
theorem dX11_markOf_37 : decode cX11_markOf 37 = .ok (.goto 14, 3) := by decide +kernel
theorem dX11_markOf_40 : decode cX11_markOf 40 = .ok (.iload_n 0, 1) := by decide +kernel
theorem dX11_markOf_41 : decode cX11_markOf 41 = .ok (.bipush 112, 2) := by decide +kernel
theorem dX11_markOf_43 : decode cX11_markOf 43 = .ok (.if_icmp .ne 7, 3) := by decide +kernel
theorem dX11_markOf_46 : decode cX11_markOf 46 = .ok (.iconst 3, 1) := by decide +kernel
theorem dX11_markOf_47 : decode cX11_markOf 47 = .ok (.goto 4, 3) := by decide +kernel
theorem dX11_markOf_50 : decode cX11_markOf 50 = .ok (.iconst (-1), 1) := by decide +kernel
theorem dX11_markOf_51 : decode cX11_markOf 51 = .ok (.ireturn, 1) := by decide +kernel
theorem dX11_leaf_0 : decode cX11_leaf 0 = .ok (.aload_n 0, 1) := by decide +kernel
theorem dX11_leaf_1 : decode cX11_leaf 1 = .ok (.invokevirtual 259, 3) := by decide +kernel
theorem dX11_leaf_4 : decode cX11_leaf 4 = .ok (.iconst 0, 1) := by decide +kernel
theorem dX11_leaf_5 : decode cX11_leaf 5 = .ok (.istore_n 1, 1) := by decide +kernel
theorem dX11_leaf_6 : decode cX11_leaf 6 = .ok (.iload_n 1, 1) := by decide +kernel
theorem dX11_leaf_7 : decode cX11_leaf 7 = .ok (.aload_n 0, 1) := by decide +kernel
theorem dX11_leaf_8 : decode cX11_leaf 8 = .ok (.getfield 157, 3) := by decide +kernel
theorem dX11_leaf_11 : decode cX11_leaf 11 = .ok (.if_icmp .ge 48, 3) := by decide +kernel
theorem dX11_leaf_14 : decode cX11_leaf 14 = .ok (.aload_n 0, 1) := by decide +kernel
theorem dX11_leaf_15 : decode cX11_leaf 15 = .ok (.getfield 187, 3) := by decide +kernel
theorem dX11_leaf_18 : decode cX11_leaf 18 = .ok (.ifCond .ne 41, 3) := by decide +kernel
theorem dX11_leaf_21 : decode cX11_leaf 21 = .ok (.iload_n 1, 1) := by decide +kernel
theorem dX11_leaf_22 : decode cX11_leaf 22 = .ok (.sipush 300, 3) := by decide +kernel
theorem dX11_leaf_25 : decode cX11_leaf 25 = .ok (.if_icmp .ge 18, 3) := by decide +kernel
theorem dX11_leaf_28 : decode cX11_leaf 28 = .ok (.aload_n 0, 1) := by decide +kernel
theorem dX11_leaf_29 : decode cX11_leaf 29 = .ok (.getfield 13, 3) := by decide +kernel
theorem dX11_leaf_32 : decode cX11_leaf 32 = .ok (.iload_n 1, 1) := by decide +kernel
theorem dX11_leaf_33 : decode cX11_leaf 33 = .ok (.iaload, 1) := by decide +kernel
theorem dX11_leaf_34 : decode cX11_leaf 34 = .ok (.invokestatic 281, 3) := by decide +kernel
theorem dX11_leaf_37 : decode cX11_leaf 37 = .ok (.ifCond .lt 6, 3) := by decide +kernel
theorem dX11_leaf_40 : decode cX11_leaf 40 = .ok (.goto 13, 3) := by decide +kernel
theorem dX11_leaf_43 : decode cX11_leaf 43 = .ok (.aload_n 0, 1) := by decide +kernel
theorem dX11_leaf_44 : decode cX11_leaf 44 = .ok (.iconst 1, 1) := by decide +kernel
theorem dX11_leaf_45 : decode cX11_leaf 45 = .ok (.putfield 187, 3) := by decide +kernel
theorem dX11_leaf_48 : decode cX11_leaf 48 = .ok (.aload_n 0, 1) := by decide +kernel
theorem dX11_leaf_49 : decode cX11_leaf 49 = .ok (.iload_n 1, 1) := by decide +kernel
theorem dX11_leaf_50 : decode cX11_leaf 50 = .ok (.putfield 16, 3) := by decide +kernel
theorem dX11_leaf_53 : decode cX11_leaf 53 = .ok (.iinc 1 1, 3) := by decide +kernel
theorem dX11_leaf_56 : decode cX11_leaf 56 = .ok (.goto (-50), 3) := by decide +kernel
theorem dX11_leaf_59 : decode cX11_leaf 59 = .ok (.aload_n 0, 1) := by decide +kernel
theorem dX11_leaf_60 : decode cX11_leaf 60 = .ok (.getfield 187, 3) := by decide +kernel
theorem dX11_leaf_63 : decode cX11_leaf 63 = .ok (.ifCond .le 5, 3) := by decide +kernel
theorem dX11_leaf_66 : decode cX11_leaf 66 = .ok (.iconst (-1), 1) := by decide +kernel
theorem dX11_leaf_67 : decode cX11_leaf 67 = .ok (.ireturn, 1) := by decide +kernel
theorem dX11_leaf_68 : decode cX11_leaf 68 = .ok (.iconst 0, 1) := by decide +kernel
theorem dX11_leaf_69 : decode cX11_leaf 69 = .ok (.istore_n 1, 1) := by decide +kernel
theorem dX11_leaf_70 : decode cX11_leaf 70 = .ok (.iload_n 1, 1) := by decide +kernel
theorem dX11_leaf_71 : decode cX11_leaf 71 = .ok (.aload_n 0, 1) := by decide +kernel
theorem dX11_leaf_72 : decode cX11_leaf 72 = .ok (.getfield 157, 3) := by decide +kernel
theorem dX11_leaf_75 : decode cX11_leaf 75 = .ok (.if_icmp .ge 24, 3) := by decide +kernel
theorem dX11_leaf_78 : decode cX11_leaf 78 = .ok (.aload_n 0, 1) := by decide +kernel
theorem dX11_leaf_79 : decode cX11_leaf 79 = .ok (.getfield 53, 3) := by decide +kernel
theorem dX11_leaf_82 : decode cX11_leaf 82 = .ok (.iload_n 1, 1) := by decide +kernel
theorem dX11_leaf_83 : decode cX11_leaf 83 = .ok (.aload_n 0, 1) := by decide +kernel
theorem dX11_leaf_84 : decode cX11_leaf 84 = .ok (.getfield 13, 3) := by decide +kernel
theorem dX11_leaf_87 : decode cX11_leaf 87 = .ok (.iload_n 1, 1) := by decide +kernel
theorem dX11_leaf_88 : decode cX11_leaf 88 = .ok (.iaload, 1) := by decide +kernel
theorem dX11_leaf_89 : decode cX11_leaf 89 = .ok (.invokestatic 281, 3) := by decide +kernel
theorem dX11_leaf_92 : decode cX11_leaf 92 = .ok (.iastore, 1) := by decide +kernel
theorem dX11_leaf_93 : decode cX11_leaf 93 = .ok (.iinc 1 1, 3) := by decide +kernel
theorem dX11_leaf_96 : decode cX11_leaf 96 = .ok (.goto (-26), 3) := by decide +kernel
theorem dX11_leaf_99 : decode cX11_leaf 99 = .ok (.aload_n 0, 1) := by decide +kernel
theorem dX11_leaf_100 : decode cX11_leaf 100 = .ok (.aload_n 0, 1) := by decide +kernel
theorem dX11_leaf_101 : decode cX11_leaf 101 = .ok (.getfield 157, 3) := by decide +kernel
theorem dX11_leaf_104 : decode cX11_leaf 104 = .ok (.putfield 284, 3) := by decide +kernel
theorem dX11_leaf_107 : decode cX11_leaf 107 = .ok (.aload_n 0, 1) := by decide +kernel
theorem dX11_leaf_108 : decode cX11_leaf 108 = .ok (.getfield 284, 3) := by decide +kernel
theorem dX11_leaf_111 : decode cX11_leaf 111 = .ok (.ireturn, 1) := by decide +kernel
theorem dX11_patch_0 : decode cX11_patch 0 = .ok (.iload_n 1, 1) := by decide +kernel
theorem dX11_patch_1 : decode cX11_patch 1 = .ok (.ifCond .lt 18, 3) := by decide +kernel
theorem dX11_patch_4 : decode cX11_patch 4 = .ok (.iload_n 1, 1) := by decide +kernel
theorem dX11_patch_5 : decode cX11_patch 5 = .ok (.iconst 3, 1) := by decide +kernel
theorem dX11_patch_6 : decode cX11_patch 6 = .ok (.if_icmp .gt 13, 3) := by decide +kernel
theorem dX11_patch_9 : decode cX11_patch 9 = .ok (.iload_n 2, 1) := by decide +kernel
theorem dX11_patch_10 : decode cX11_patch 10 = .ok (.ifCond .lt 9, 3) := by decide +kernel
theorem dX11_patch_13 : decode cX11_patch 13 = .ok (.iload_n 2, 1) := by decide +kernel
theorem dX11_patch_14 : decode cX11_patch 14 = .ok (.bipush 100, 2) := by decide +kernel
theorem dX11_patch_16 : decode cX11_patch 16 = .ok (.if_icmp .le 5, 3) := by decide +kernel
theorem dX11_patch_19 : decode cX11_patch 19 = .ok (.iconst 0, 1) := by decide +kernel
theorem dX11_patch_20 : decode cX11_patch 20 = .ok (.ireturn, 1) := by decide +kernel
theorem dX11_patch_21 : decode cX11_patch 21 = .ok (.aload_n 0, 1) := by decide +kernel
theorem dX11_patch_22 : decode cX11_patch 22 = .ok (.iload_n 1, 1) := by decide +kernel
theorem dX11_patch_23 : decode cX11_patch 23 = .ok (.putfield 287, 3) := by decide +kernel
theorem dX11_patch_26 : decode cX11_patch 26 = .ok (.aload_n 0, 1) := by decide +kernel
theorem dX11_patch_27 : decode cX11_patch 27 = .ok (.iload_n 2, 1) := by decide +kernel
theorem dX11_patch_28 : decode cX11_patch 28 = .ok (.putfield 56, 3) := by decide +kernel
theorem dX11_patch_31 : decode cX11_patch 31 = .ok (.iconst 1, 1) := by decide +kernel
theorem dX11_patch_32 : decode cX11_patch 32 = .ok (.ireturn, 1) := by decide +kernel
theorem dX11_holds_0 : decode cX11_holds 0 = .ok (.iconst 0, 1) := by decide +kernel
theorem dX11_holds_1 : decode cX11_holds 1 = .ok (.istore_n 2, 1) := by decide +kernel
theorem dX11_holds_2 : decode cX11_holds 2 = .ok (.aload_n 0, 1) := by decide +kernel
theorem dX11_holds_3 : decode cX11_holds 3 = .ok (.getfield 32, 3) := by decide +kernel
theorem dX11_holds_6 : decode cX11_holds 6 = .ok (.iload_n 1, 1) := by decide +kernel
theorem dX11_holds_7 : decode cX11_holds 7 = .ok (.iaload, 1) := by decide +kernel
theorem dX11_holds_8 : decode cX11_holds 8 = .ok (.istore_n 3, 1) := by decide +kernel
theorem dX11_holds_9 : decode cX11_holds 9 = .ok (.iload_n 3, 1) := by decide +kernel
theorem dX11_holds_10 : decode cX11_holds 10 = .ok (.aload_n 0, 1) := by decide +kernel
theorem dX11_holds_11 : decode cX11_holds 11 = .ok (.getfield 32, 3) := by decide +kernel
theorem dX11_holds_14 : decode cX11_holds 14 = .ok (.iload_n 1, 1) := by decide +kernel
theorem dX11_holds_15 : decode cX11_holds 15 = .ok (.iconst 1, 1) := by decide +kernel
theorem dX11_holds_16 : decode cX11_holds 16 = .ok (.iadd, 1) := by decide +kernel
theorem dX11_holds_17 : decode cX11_holds 17 = .ok (.iaload, 1) := by decide +kernel
theorem dX11_holds_18 : decode cX11_holds 18 = .ok (.if_icmp .ge 295, 3) := by decide +kernel
theorem dX11_holds_21 : decode cX11_holds 21 = .ok (.aload_n 0, 1) := by decide +kernel
theorem dX11_holds_22 : decode cX11_holds 22 = .ok (.getfield 26, 3) := by decide +kernel
theorem dX11_holds_25 : decode cX11_holds 25 = .ok (.iload_n 3, 1) := by decide +kernel
theorem dX11_holds_26 : decode cX11_holds 26 = .ok (.iaload, 1) := by decide +kernel
theorem dX11_holds_27 : decode cX11_holds 27 = .ok (.istore 4, 2) := by decide +kernel
theorem dX11_holds_29 : decode cX11_holds 29 = .ok (.iload 4, 2) := by decide +kernel
theorem dX11_holds_31 : decode cX11_holds 31 = .ok (.bipush 20, 2) := by decide +kernel
theorem dX11_holds_33 : decode cX11_holds 33 = .ok (.if_icmp .ge 39, 3) := by decide +kernel
theorem dX11_holds_36 : decode cX11_holds 36 = .ok (.aload_n 0, 1) := by decide +kernel
theorem dX11_holds_37 : decode cX11_holds 37 = .ok (.getfield 62, 3) := by decide +kernel
theorem dX11_holds_40 : decode cX11_holds 40 = .ok (.iload_n 2, 1) := by decide +kernel
theorem dX11_holds_41 : decode cX11_holds 41 = .ok (.iload 4, 2) := by decide +kernel
theorem dX11_holds_43 : decode cX11_holds 43 = .ok (.ifCond .ne 12, 3) := by decide +kernel
theorem dX11_holds_46 : decode cX11_holds 46 = .ok (.aload_n 0, 1) := by decide +kernel
theorem dX11_holds_47 : decode cX11_holds 47 = .ok (.getfield 29, 3) := by decide +kernel
theorem dX11_holds_50 : decode cX11_holds 50 = .ok (.iload_n 3, 1) := by decide +kernel
theorem dX11_holds_51 : decode cX11_holds 51 = .ok (.iaload, 1) := by decide +kernel
theorem dX11_holds_52 : decode cX11_holds 52 = .ok (.goto 13, 3) := by decide +kernel
theorem dX11_holds_55 : decode cX11_holds 55 = .ok (.aload_n 0, 1) := by decide +kernel
theorem dX11_holds_56 : decode cX11_holds 56 = .ok (.getfield 59, 3) := by decide +kernel
theorem dX11_holds_59 : decode cX11_holds 59 = .ok (.iload 4, 2) := by decide +kernel
theorem dX11_holds_61 : decode cX11_holds 61 = .ok (.bipush 10, 2) := by decide +kernel
theorem dX11_holds_63 : decode cX11_holds 63 = .ok (.isub, 1) := by decide +kernel
theorem dX11_holds_64 : decode cX11_holds 64 = .ok (.iaload, 1) := by decide +kernel
theorem dX11_holds_65 : decode cX11_holds 65 = .ok (.iastore, 1) := by decide +kernel
theorem dX11_holds_66 : decode cX11_holds 66 = .ok (.iinc 2 1, 3) := by decide +kernel
theorem dX11_holds_69 : decode cX11_holds 69 = .ok (.goto 238, 3) := by decide +kernel
theorem dX11_holds_72 : decode cX11_holds 72 = .ok (.iload 4, 2) := by decide +kernel
theorem dX11_holds_74 : decode cX11_holds 74 = .ok (.bipush 20, 2) := by decide +kernel
theorem dX11_holds_76 : decode cX11_holds 76 = .ok (.if_icmp .ne 24, 3) := by decide +kernel
theorem dX11_holds_79 : decode cX11_holds 79 = .ok (.aload_n 0, 1) := by decide +kernel
theorem dX11_holds_80 : decode cX11_holds 80 = .ok (.getfield 62, 3) := by decide +kernel
theorem dX11_holds_83 : decode cX11_holds 83 = .ok (.iload_n 2, 1) := by decide +kernel
theorem dX11_holds_84 : decode cX11_holds 84 = .ok (.iconst 1, 1) := by decide +kernel
theorem dX11_holds_85 : decode cX11_holds 85 = .ok (.isub, 1) := by decide +kernel
theorem dX11_holds_86 : decode cX11_holds 86 = .ok (.iconst 1, 1) := by decide +kernel
theorem dX11_holds_87 : decode cX11_holds 87 = .ok (.aload_n 0, 1) := by decide +kernel
theorem dX11_holds_88 : decode cX11_holds 88 = .ok (.getfield 62, 3) := by decide +kernel
theorem dX11_holds_91 : decode cX11_holds 91 = .ok (.iload_n 2, 1) := by decide +kernel
theorem dX11_holds_92 : decode cX11_holds 92 = .ok (.iconst 1, 1) := by decide +kernel
theorem dX11_holds_93 : decode cX11_holds 93 = .ok (.isub, 1) := by decide +kernel
theorem dX11_holds_94 : decode cX11_holds 94 = .ok (.iaload, 1) := by decide +kernel
theorem dX11_holds_95 : decode cX11_holds 95 = .ok (.isub, 1) := by decide +kernel
theorem dX11_holds_96 : decode cX11_holds 96 = .ok (.iastore, 1) := by decide +kernel
theorem dX11_holds_97 : decode cX11_holds 97 = .ok (.goto 210, 3) := by decide +kernel
theorem dX11_holds_100 : decode cX11_holds 100 = .ok (.iinc 2 (-1), 3) := by decide +kernel
theorem dX11_holds_103 : decode cX11_holds 103 = .ok (.aload_n 0, 1) := by decide +kernel
theorem dX11_holds_104 : decode cX11_holds 104 = .ok (.getfield 62, 3) := by decide +kernel
theorem dX11_holds_107 : decode cX11_holds 107 = .ok (.iload_n 2, 1) := by decide +kernel
theorem dX11_holds_108 : decode cX11_holds 108 = .ok (.iconst 1, 1) := by decide +kernel
theorem dX11_holds_109 : decode cX11_holds 109 = .ok (.isub, 1) := by decide +kernel
theorem dX11_holds_110 : decode cX11_holds 110 = .ok (.iaload, 1) := by decide +kernel
theorem dX11_holds_111 : decode cX11_holds 111 = .ok (.istore 5, 2) := by decide +kernel
theorem dX11_holds_113 : decode cX11_holds 113 = .ok (.aload_n 0, 1) := by decide +kernel
theorem dX11_holds_114 : decode cX11_holds 114 = .ok (.getfield 62, 3) := by decide +kernel
theorem dX11_holds_117 : decode cX11_holds 117 = .ok (.iload_n 2, 1) := by decide +kernel
theorem dX11_holds_118 : decode cX11_holds 118 = .ok (.iaload, 1) := by decide +kernel
theorem dX11_holds_119 : decode cX11_holds 119 = .ok (.istore 6, 2) := by decide +kernel
theorem dX11_holds_121 : decode cX11_holds 121 = .ok (.iload 4, 2) := by decide +kernel
theorem dX11_holds_123 : decode cX11_holds 123 = .ok (.tableswitch 171 21 26 #[37, 61, 86, 109, 132, 155], 37) := by decide +kernel
theorem dX11_holds_160 : decode cX11_holds 160 = .ok (.aload_n 0, 1) := by decide +kernel
theorem dX11_holds_161 : decode cX11_holds 161 = .ok (.getfield 62, 3) := by decide +kernel
theorem dX11_holds_164 : decode cX11_holds 164 = .ok (.iload_n 2, 1) := by decide +kernel
theorem dX11_holds_165 : decode cX11_holds 165 = .ok (.iconst 1, 1) := by decide +kernel
theorem dX11_holds_166 : decode cX11_holds 166 = .ok (.isub, 1) := by decide +kernel
theorem dX11_holds_167 : decode cX11_holds 167 = .ok (.iload 5, 2) := by decide +kernel
theorem dX11_holds_169 : decode cX11_holds 169 = .ok (.iload 6, 2) := by decide +kernel
theorem dX11_holds_171 : decode cX11_holds 171 = .ok (.iadd, 1) := by decide +kernel
theorem dX11_holds_172 : decode cX11_holds 172 = .ok (.ifCond .le 7, 3) := by decide +kernel
theorem dX11_holds_175 : decode cX11_holds 175 = .ok (.iconst 1, 1) := by decide +kernel
theorem dX11_holds_176 : decode cX11_holds 176 = .ok (.goto 4, 3) := by decide +kernel
theorem dX11_holds_179 : decode cX11_holds 179 = .ok (.iconst 0, 1) := by decide +kernel
theorem dX11_holds_180 : decode cX11_holds 180 = .ok (.iastore, 1) := by decide +kernel
theorem dX11_holds_181 : decode cX11_holds 181 = .ok (.goto 126, 3) := by decide +kernel
theorem dX11_holds_184 : decode cX11_holds 184 = .ok (.aload_n 0, 1) := by decide +kernel
theorem dX11_holds_185 : decode cX11_holds 185 = .ok (.getfield 62, 3) := by decide +kernel
theorem dX11_holds_188 : decode cX11_holds 188 = .ok (.iload_n 2, 1) := by decide +kernel
theorem dX11_holds_189 : decode cX11_holds 189 = .ok (.iconst 1, 1) := by decide +kernel
theorem dX11_holds_190 : decode cX11_holds 190 = .ok (.isub, 1) := by decide +kernel
theorem dX11_holds_191 : decode cX11_holds 191 = .ok (.iload 5, 2) := by decide +kernel
theorem dX11_holds_193 : decode cX11_holds 193 = .ok (.iload 6, 2) := by decide +kernel
theorem dX11_holds_195 : decode cX11_holds 195 = .ok (.iadd, 1) := by decide +kernel
theorem dX11_holds_196 : decode cX11_holds 196 = .ok (.iconst 1, 1) := by decide +kernel
theorem dX11_holds_197 : decode cX11_holds 197 = .ok (.if_icmp .le 7, 3) := by decide +kernel
theorem dX11_holds_200 : decode cX11_holds 200 = .ok (.iconst 1, 1) := by decide +kernel
theorem dX11_holds_201 : decode cX11_holds 201 = .ok (.goto 4, 3) := by decide +kernel
theorem dX11_holds_204 : decode cX11_holds 204 = .ok (.iconst 0, 1) := by decide +kernel
theorem dX11_holds_205 : decode cX11_holds 205 = .ok (.iastore, 1) := by decide +kernel
theorem dX11_holds_206 : decode cX11_holds 206 = .ok (.goto 101, 3) := by decide +kernel
theorem dX11_holds_209 : decode cX11_holds 209 = .ok (.aload_n 0, 1) := by decide +kernel
theorem dX11_holds_210 : decode cX11_holds 210 = .ok (.getfield 62, 3) := by decide +kernel
theorem dX11_holds_213 : decode cX11_holds 213 = .ok (.iload_n 2, 1) := by decide +kernel
theorem dX11_holds_214 : decode cX11_holds 214 = .ok (.iconst 1, 1) := by decide +kernel
theorem dX11_holds_215 : decode cX11_holds 215 = .ok (.isub, 1) := by decide +kernel
theorem dX11_holds_216 : decode cX11_holds 216 = .ok (.iload 5, 2) := by decide +kernel
theorem dX11_holds_218 : decode cX11_holds 218 = .ok (.iload 6, 2) := by decide +kernel
theorem dX11_holds_220 : decode cX11_holds 220 = .ok (.if_icmp .ne 7, 3) := by decide +kernel
theorem dX11_holds_223 : decode cX11_holds 223 = .ok (.iconst 1, 1) := by decide +kernel
theorem dX11_holds_224 : decode cX11_holds 224 = .ok (.goto 4, 3) := by decide +kernel
theorem dX11_holds_227 : decode cX11_holds 227 = .ok (.iconst 0, 1) := by decide +kernel
theorem dX11_holds_228 : decode cX11_holds 228 = .ok (.iastore, 1) := by decide +kernel
theorem dX11_holds_229 : decode cX11_holds 229 = .ok (.goto 78, 3) := by decide +kernel
theorem dX11_holds_232 : decode cX11_holds 232 = .ok (.aload_n 0, 1) := by decide +kernel
theorem dX11_holds_233 : decode cX11_holds 233 = .ok (.getfield 62, 3) := by decide +kernel
theorem dX11_holds_236 : decode cX11_holds 236 = .ok (.iload_n 2, 1) := by decide +kernel
theorem dX11_holds_237 : decode cX11_holds 237 = .ok (.iconst 1, 1) := by decide +kernel
theorem dX11_holds_238 : decode cX11_holds 238 = .ok (.isub, 1) := by decide +kernel
theorem dX11_holds_239 : decode cX11_holds 239 = .ok (.iload 5, 2) := by decide +kernel
theorem dX11_holds_241 : decode cX11_holds 241 = .ok (.iload 6, 2) := by decide +kernel
theorem dX11_holds_243 : decode cX11_holds 243 = .ok (.if_icmp .ge 7, 3) := by decide +kernel
theorem dX11_holds_246 : decode cX11_holds 246 = .ok (.iconst 1, 1) := by decide +kernel
theorem dX11_holds_247 : decode cX11_holds 247 = .ok (.goto 4, 3) := by decide +kernel
theorem dX11_holds_250 : decode cX11_holds 250 = .ok (.iconst 0, 1) := by decide +kernel
theorem dX11_holds_251 : decode cX11_holds 251 = .ok (.iastore, 1) := by decide +kernel
theorem dX11_holds_252 : decode cX11_holds 252 = .ok (.goto 55, 3) := by decide +kernel
theorem dX11_holds_255 : decode cX11_holds 255 = .ok (.aload_n 0, 1) := by decide +kernel
theorem dX11_holds_256 : decode cX11_holds 256 = .ok (.getfield 62, 3) := by decide +kernel
theorem dX11_holds_259 : decode cX11_holds 259 = .ok (.iload_n 2, 1) := by decide +kernel
theorem dX11_holds_260 : decode cX11_holds 260 = .ok (.iconst 1, 1) := by decide +kernel
theorem dX11_holds_261 : decode cX11_holds 261 = .ok (.isub, 1) := by decide +kernel
theorem dX11_holds_262 : decode cX11_holds 262 = .ok (.iload 5, 2) := by decide +kernel
theorem dX11_holds_264 : decode cX11_holds 264 = .ok (.iload 6, 2) := by decide +kernel
theorem dX11_holds_266 : decode cX11_holds 266 = .ok (.if_icmp .le 7, 3) := by decide +kernel
theorem dX11_holds_269 : decode cX11_holds 269 = .ok (.iconst 1, 1) := by decide +kernel
theorem dX11_holds_270 : decode cX11_holds 270 = .ok (.goto 4, 3) := by decide +kernel
theorem dX11_holds_273 : decode cX11_holds 273 = .ok (.iconst 0, 1) := by decide +kernel
theorem dX11_holds_274 : decode cX11_holds 274 = .ok (.iastore, 1) := by decide +kernel
theorem dX11_holds_275 : decode cX11_holds 275 = .ok (.goto 32, 3) := by decide +kernel
theorem dX11_holds_278 : decode cX11_holds 278 = .ok (.aload_n 0, 1) := by decide +kernel
theorem dX11_holds_279 : decode cX11_holds 279 = .ok (.getfield 62, 3) := by decide +kernel
theorem dX11_holds_282 : decode cX11_holds 282 = .ok (.iload_n 2, 1) := by decide +kernel
theorem dX11_holds_283 : decode cX11_holds 283 = .ok (.iconst 1, 1) := by decide +kernel
theorem dX11_holds_284 : decode cX11_holds 284 = .ok (.isub, 1) := by decide +kernel
theorem dX11_holds_285 : decode cX11_holds 285 = .ok (.iload 5, 2) := by decide +kernel
theorem dX11_holds_287 : decode cX11_holds 287 = .ok (.iload 6, 2) := by decide +kernel
theorem dX11_holds_289 : decode cX11_holds 289 = .ok (.iadd, 1) := by decide +kernel
theorem dX11_holds_290 : decode cX11_holds 290 = .ok (.iastore, 1) := by decide +kernel
theorem dX11_holds_291 : decode cX11_holds 291 = .ok (.goto 16, 3) := by decide +kernel
theorem dX11_holds_294 : decode cX11_holds 294 = .ok (.aload_n 0, 1) := by decide +kernel
theorem dX11_holds_295 : decode cX11_holds 295 = .ok (.getfield 62, 3) := by decide +kernel
theorem dX11_holds_298 : decode cX11_holds 298 = .ok (.iload_n 2, 1) := by decide +kernel
theorem dX11_holds_299 : decode cX11_holds 299 = .ok (.iconst 1, 1) := by decide +kernel
theorem dX11_holds_300 : decode cX11_holds 300 = .ok (.isub, 1) := by decide +kernel
theorem dX11_holds_301 : decode cX11_holds 301 = .ok (.iload 5, 2) := by decide +kernel
theorem dX11_holds_303 : decode cX11_holds 303 = .ok (.iload 6, 2) := by decide +kernel
theorem dX11_holds_305 : decode cX11_holds 305 = .ok (.isub, 1) := by decide +kernel
theorem dX11_holds_306 : decode cX11_holds 306 = .ok (.iastore, 1) := by decide +kernel
theorem dX11_holds_307 : decode cX11_holds 307 = .ok (.iinc 3 1, 3) := by decide +kernel
theorem dX11_holds_310 : decode cX11_holds 310 = .ok (.goto (-301), 3) := by decide +kernel
theorem dX11_holds_313 : decode cX11_holds 313 = .ok (.iload_n 2, 1) := by decide +kernel
theorem dX11_holds_314 : decode cX11_holds 314 = .ok (.ifCond .eq 13, 3) := by decide +kernel
theorem dX11_holds_317 : decode cX11_holds 317 = .ok (.aload_n 0, 1) := by decide +kernel
theorem dX11_holds_318 : decode cX11_holds 318 = .ok (.getfield 62, 3) := by decide +kernel
theorem dX11_holds_321 : decode cX11_holds 321 = .ok (.iconst 0, 1) := by decide +kernel
theorem dX11_holds_322 : decode cX11_holds 322 = .ok (.iaload, 1) := by decide +kernel
theorem dX11_holds_323 : decode cX11_holds 323 = .ok (.iconst 1, 1) := by decide +kernel
theorem dX11_holds_324 : decode cX11_holds 324 = .ok (.if_icmp .ne 7, 3) := by decide +kernel
theorem dX11_holds_327 : decode cX11_holds 327 = .ok (.iconst 1, 1) := by decide +kernel
theorem dX11_holds_328 : decode cX11_holds 328 = .ok (.goto 4, 3) := by decide +kernel
theorem dX11_holds_331 : decode cX11_holds 331 = .ok (.iconst 0, 1) := by decide +kernel
theorem dX11_holds_332 : decode cX11_holds 332 = .ok (.ireturn, 1) := by decide +kernel
theorem dX11_isSheet_0 : decode cX11_isSheet 0 = .ok (.iconst 0, 1) := by decide +kernel
theorem dX11_isSheet_1 : decode cX11_isSheet 1 = .ok (.istore 4, 2) := by decide +kernel
theorem dX11_isSheet_3 : decode cX11_isSheet 3 = .ok (.iload 4, 2) := by decide +kernel
theorem dX11_isSheet_5 : decode cX11_isSheet 5 = .ok (.iconst 5, 1) := by decide +kernel
theorem dX11_isSheet_6 : decode cX11_isSheet 6 = .ok (.if_icmp .ge 17, 3) := by decide +kernel
theorem dX11_isSheet_9 : decode cX11_isSheet 9 = .ok (.aload_n 0, 1) := by decide +kernel
theorem dX11_isSheet_10 : decode cX11_isSheet 10 = .ok (.getfield 59, 3) := by decide +kernel
theorem dX11_isSheet_13 : decode cX11_isSheet 13 = .ok (.iload 4, 2) := by decide +kernel
theorem dX11_isSheet_15 : decode cX11_isSheet 15 = .ok (.iconst 0, 1) := by decide +kernel
theorem dX11_isSheet_16 : decode cX11_isSheet 16 = .ok (.iastore, 1) := by decide +kernel
theorem dX11_isSheet_17 : decode cX11_isSheet 17 = .ok (.iinc 4 1, 3) := by decide +kernel
theorem dX11_isSheet_20 : decode cX11_isSheet 20 = .ok (.goto (-17), 3) := by decide +kernel
theorem dX11_isSheet_23 : decode cX11_isSheet 23 = .ok (.iconst 0, 1) := by decide +kernel
theorem dX11_isSheet_24 : decode cX11_isSheet 24 = .ok (.istore 4, 2) := by decide +kernel
theorem dX11_isSheet_26 : decode cX11_isSheet 26 = .ok (.iload_n 1, 1) := by decide +kernel
theorem dX11_isSheet_27 : decode cX11_isSheet 27 = .ok (.istore 5, 2) := by decide +kernel
theorem dX11_isSheet_29 : decode cX11_isSheet 29 = .ok (.iload 5, 2) := by decide +kernel
theorem dX11_isSheet_31 : decode cX11_isSheet 31 = .ok (.iload_n 1, 1) := by decide +kernel
theorem dX11_isSheet_32 : decode cX11_isSheet 32 = .ok (.aload_n 0, 1) := by decide +kernel
theorem dX11_isSheet_33 : decode cX11_isSheet 33 = .ok (.getfield 20, 3) := by decide +kernel
theorem dX11_isSheet_36 : decode cX11_isSheet 36 = .ok (.iload_n 2, 1) := by decide +kernel
theorem dX11_isSheet_37 : decode cX11_isSheet 37 = .ok (.iaload, 1) := by decide +kernel
theorem dX11_isSheet_38 : decode cX11_isSheet 38 = .ok (.iadd, 1) := by decide +kernel
theorem dX11_isSheet_39 : decode cX11_isSheet 39 = .ok (.if_icmp .ge 85, 3) := by decide +kernel
theorem dX11_isSheet_42 : decode cX11_isSheet 42 = .ok (.aload_n 0, 1) := by decide +kernel
theorem dX11_isSheet_43 : decode cX11_isSheet 43 = .ok (.getfield 53, 3) := by decide +kernel
theorem dX11_isSheet_46 : decode cX11_isSheet 46 = .ok (.iload 5, 2) := by decide +kernel
theorem dX11_isSheet_48 : decode cX11_isSheet 48 = .ok (.iaload, 1) := by decide +kernel
theorem dX11_isSheet_49 : decode cX11_isSheet 49 = .ok (.iconst 4, 1) := by decide +kernel
theorem dX11_isSheet_50 : decode cX11_isSheet 50 = .ok (.if_icmp .ne 10, 3) := by decide +kernel
theorem dX11_isSheet_53 : decode cX11_isSheet 53 = .ok (.iload 4, 2) := by decide +kernel
theorem dX11_isSheet_55 : decode cX11_isSheet 55 = .ok (.iconst 1, 1) := by decide +kernel
theorem dX11_isSheet_56 : decode cX11_isSheet 56 = .ok (.iadd, 1) := by decide +kernel
theorem dX11_isSheet_57 : decode cX11_isSheet 57 = .ok (.goto 4, 3) := by decide +kernel
theorem dX11_isSheet_60 : decode cX11_isSheet 60 = .ok (.iconst 0, 1) := by decide +kernel
theorem dX11_isSheet_61 : decode cX11_isSheet 61 = .ok (.istore 4, 2) := by decide +kernel
theorem dX11_isSheet_63 : decode cX11_isSheet 63 = .ok (.aload_n 0, 1) := by decide +kernel
theorem dX11_isSheet_64 : decode cX11_isSheet 64 = .ok (.getfield 53, 3) := by decide +kernel
theorem dX11_isSheet_67 : decode cX11_isSheet 67 = .ok (.iload 5, 2) := by decide +kernel
theorem dX11_isSheet_69 : decode cX11_isSheet 69 = .ok (.iaload, 1) := by decide +kernel
theorem dX11_isSheet_70 : decode cX11_isSheet 70 = .ok (.iconst 4, 1) := by decide +kernel
theorem dX11_isSheet_71 : decode cX11_isSheet 71 = .ok (.if_icmp .ge 19, 3) := by decide +kernel
theorem dX11_isSheet_74 : decode cX11_isSheet 74 = .ok (.aload_n 0, 1) := by decide +kernel
theorem dX11_isSheet_75 : decode cX11_isSheet 75 = .ok (.getfield 59, 3) := by decide +kernel
theorem dX11_isSheet_78 : decode cX11_isSheet 78 = .ok (.aload_n 0, 1) := by decide +kernel
theorem dX11_isSheet_79 : decode cX11_isSheet 79 = .ok (.getfield 53, 3) := by decide +kernel
theorem dX11_isSheet_82 : decode cX11_isSheet 82 = .ok (.iload 5, 2) := by decide +kernel
theorem dX11_isSheet_84 : decode cX11_isSheet 84 = .ok (.iaload, 1) := by decide +kernel
theorem dX11_isSheet_85 : decode cX11_isSheet 85 = .ok (.dup2, 1) := by decide +kernel
theorem dX11_isSheet_86 : decode cX11_isSheet 86 = .ok (.iaload, 1) := by decide +kernel
theorem dX11_isSheet_87 : decode cX11_isSheet 87 = .ok (.iconst 1, 1) := by decide +kernel
theorem dX11_isSheet_88 : decode cX11_isSheet 88 = .ok (.iadd, 1) := by decide +kernel
theorem dX11_isSheet_89 : decode cX11_isSheet 89 = .ok (.iastore, 1) := by decide +kernel
theorem dX11_isSheet_90 : decode cX11_isSheet 90 = .ok (.aload_n 0, 1) := by decide +kernel
theorem dX11_isSheet_91 : decode cX11_isSheet 91 = .ok (.getfield 59, 3) := by decide +kernel
theorem dX11_isSheet_94 : decode cX11_isSheet 94 = .ok (.iconst 4, 1) := by decide +kernel
theorem dX11_isSheet_95 : decode cX11_isSheet 95 = .ok (.iload 4, 2) := by decide +kernel
theorem dX11_isSheet_97 : decode cX11_isSheet 97 = .ok (.aload_n 0, 1) := by decide +kernel
theorem dX11_isSheet_98 : decode cX11_isSheet 98 = .ok (.getfield 59, 3) := by decide +kernel
theorem dX11_isSheet_101 : decode cX11_isSheet 101 = .ok (.iconst 4, 1) := by decide +kernel
theorem dX11_isSheet_102 : decode cX11_isSheet 102 = .ok (.iaload, 1) := by decide +kernel
theorem dX11_isSheet_103 : decode cX11_isSheet 103 = .ok (.if_icmp .le 8, 3) := by decide +kernel
theorem dX11_isSheet_106 : decode cX11_isSheet 106 = .ok (.iload 4, 2) := by decide +kernel
theorem dX11_isSheet_108 : decode cX11_isSheet 108 = .ok (.goto 9, 3) := by decide +kernel
theorem dX11_isSheet_111 : decode cX11_isSheet 111 = .ok (.aload_n 0, 1) := by decide +kernel
theorem dX11_isSheet_112 : decode cX11_isSheet 112 = .ok (.getfield 59, 3) := by decide +kernel
theorem dX11_isSheet_115 : decode cX11_isSheet 115 = .ok (.iconst 4, 1) := by decide +kernel
theorem dX11_isSheet_116 : decode cX11_isSheet 116 = .ok (.iaload, 1) := by decide +kernel
theorem dX11_isSheet_117 : decode cX11_isSheet 117 = .ok (.iastore, 1) := by decide +kernel
theorem dX11_isSheet_118 : decode cX11_isSheet 118 = .ok (.iinc 5 1, 3) := by decide +kernel
theorem dX11_isSheet_121 : decode cX11_isSheet 121 = .ok (.goto (-92), 3) := by decide +kernel
theorem dX11_isSheet_124 : decode cX11_isSheet 124 = .ok (.iload_n 3, 1) := by decide +kernel
theorem dX11_isSheet_125 : decode cX11_isSheet 125 = .ok (.aload_n 0, 1) := by decide +kernel
theorem dX11_isSheet_126 : decode cX11_isSheet 126 = .ok (.getfield 287, 3) := by decide +kernel
theorem dX11_isSheet_129 : decode cX11_isSheet 129 = .ok (.if_icmp .gt 13, 3) := by decide +kernel
theorem dX11_isSheet_132 : decode cX11_isSheet 132 = .ok (.iload_n 3, 1) := by decide +kernel
theorem dX11_isSheet_133 : decode cX11_isSheet 133 = .ok (.aload_n 0, 1) := by decide +kernel
theorem dX11_isSheet_134 : decode cX11_isSheet 134 = .ok (.getfield 59, 3) := by decide +kernel
theorem dX11_isSheet_137 : decode cX11_isSheet 137 = .ok (.iconst 2, 1) := by decide +kernel
theorem dX11_isSheet_138 : decode cX11_isSheet 138 = .ok (.iaload, 1) := by decide +kernel
theorem dX11_isSheet_139 : decode cX11_isSheet 139 = .ok (.if_icmp .le 5, 3) := by decide +kernel
theorem dX11_isSheet_142 : decode cX11_isSheet 142 = .ok (.iconst 0, 1) := by decide +kernel
theorem dX11_isSheet_143 : decode cX11_isSheet 143 = .ok (.ireturn, 1) := by decide +kernel
theorem dX11_isSheet_144 : decode cX11_isSheet 144 = .ok (.aload_n 0, 1) := by decide +kernel
theorem dX11_isSheet_145 : decode cX11_isSheet 145 = .ok (.getfield 59, 3) := by decide +kernel
theorem dX11_isSheet_148 : decode cX11_isSheet 148 = .ok (.iconst 2, 1) := by decide +kernel
theorem dX11_isSheet_149 : decode cX11_isSheet 149 = .ok (.dup2, 1) := by decide +kernel
theorem dX11_isSheet_150 : decode cX11_isSheet 150 = .ok (.iaload, 1) := by decide +kernel
theorem dX11_isSheet_151 : decode cX11_isSheet 151 = .ok (.iload_n 3, 1) := by decide +kernel
theorem dX11_isSheet_152 : decode cX11_isSheet 152 = .ok (.isub, 1) := by decide +kernel
theorem dX11_isSheet_153 : decode cX11_isSheet 153 = .ok (.iastore, 1) := by decide +kernel
theorem dX11_isSheet_154 : decode cX11_isSheet 154 = .ok (.aload_n 0, 1) := by decide +kernel
theorem dX11_isSheet_155 : decode cX11_isSheet 155 = .ok (.getfield 59, 3) := by decide +kernel
theorem dX11_isSheet_158 : decode cX11_isSheet 158 = .ok (.iconst 3, 1) := by decide +kernel
theorem dX11_isSheet_159 : decode cX11_isSheet 159 = .ok (.dup2, 1) := by decide +kernel
theorem dX11_isSheet_160 : decode cX11_isSheet 160 = .ok (.iaload, 1) := by decide +kernel
theorem dX11_isSheet_161 : decode cX11_isSheet 161 = .ok (.iload_n 3, 1) := by decide +kernel
theorem dX11_isSheet_162 : decode cX11_isSheet 162 = .ok (.iadd, 1) := by decide +kernel
theorem dX11_isSheet_163 : decode cX11_isSheet 163 = .ok (.iastore, 1) := by decide +kernel
theorem dX11_isSheet_164 : decode cX11_isSheet 164 = .ok (.aload_n 0, 1) := by decide +kernel
theorem dX11_isSheet_165 : decode cX11_isSheet 165 = .ok (.iload_n 2, 1) := by decide +kernel
theorem dX11_isSheet_166 : decode cX11_isSheet 166 = .ok (.invokevirtual 290, 3) := by decide +kernel
theorem dX11_isSheet_169 : decode cX11_isSheet 169 = .ok (.ireturn, 1) := by decide +kernel
theorem dX11_sheet_0 : decode cX11_sheet 0 = .ok (.iload_n 2, 1) := by decide +kernel
theorem dX11_sheet_1 : decode cX11_sheet 1 = .ok (.ifCond .lt 39, 3) := by decide +kernel
theorem dX11_sheet_4 : decode cX11_sheet 4 = .ok (.iload_n 2, 1) := by decide +kernel
theorem dX11_sheet_5 : decode cX11_sheet 5 = .ok (.aload_n 0, 1) := by decide +kernel
theorem dX11_sheet_6 : decode cX11_sheet 6 = .ok (.getfield 278, 3) := by decide +kernel
theorem dX11_sheet_9 : decode cX11_sheet 9 = .ok (.if_icmp .ge 31, 3) := by decide +kernel
theorem dX11_sheet_12 : decode cX11_sheet 12 = .ok (.iload_n 1, 1) := by decide +kernel
theorem dX11_sheet_13 : decode cX11_sheet 13 = .ok (.ifCond .lt 27, 3) := by decide +kernel
theorem dX11_sheet_16 : decode cX11_sheet 16 = .ok (.iload_n 1, 1) := by decide +kernel
theorem dX11_sheet_17 : decode cX11_sheet 17 = .ok (.aload_n 0, 1) := by decide +kernel
theorem dX11_sheet_18 : decode cX11_sheet 18 = .ok (.getfield 284, 3) := by decide +kernel
theorem dX11_sheet_21 : decode cX11_sheet 21 = .ok (.aload_n 0, 1) := by decide +kernel
theorem dX11_sheet_22 : decode cX11_sheet 22 = .ok (.getfield 20, 3) := by decide +kernel
theorem dX11_sheet_25 : decode cX11_sheet 25 = .ok (.iload_n 2, 1) := by decide +kernel
theorem dX11_sheet_26 : decode cX11_sheet 26 = .ok (.iaload, 1) := by decide +kernel
theorem dX11_sheet_27 : decode cX11_sheet 27 = .ok (.isub, 1) := by decide +kernel
theorem dX11_sheet_28 : decode cX11_sheet 28 = .ok (.if_icmp .gt 12, 3) := by decide +kernel
theorem dX11_sheet_31 : decode cX11_sheet 31 = .ok (.iload_n 3, 1) := by decide +kernel
theorem dX11_sheet_32 : decode cX11_sheet 32 = .ok (.ifCond .lt 8, 3) := by decide +kernel
theorem dX11_sheet_35 : decode cX11_sheet 35 = .ok (.iload_n 3, 1) := by decide +kernel
theorem dX11_sheet_36 : decode cX11_sheet 36 = .ok (.iconst 3, 1) := by decide +kernel
theorem dX11_sheet_37 : decode cX11_sheet 37 = .ok (.if_icmp .le 5, 3) := by decide +kernel
theorem dX11_sheet_40 : decode cX11_sheet 40 = .ok (.iconst (-1), 1) := by decide +kernel
theorem dX11_sheet_41 : decode cX11_sheet 41 = .ok (.ireturn, 1) := by decide +kernel
theorem dX11_sheet_42 : decode cX11_sheet 42 = .ok (.aload_n 0, 1) := by decide +kernel
theorem dX11_sheet_43 : decode cX11_sheet 43 = .ok (.iload_n 1, 1) := by decide +kernel
theorem dX11_sheet_44 : decode cX11_sheet 44 = .ok (.iload_n 2, 1) := by decide +kernel
theorem dX11_sheet_45 : decode cX11_sheet 45 = .ok (.iload_n 3, 1) := by decide +kernel
theorem dX11_sheet_46 : decode cX11_sheet 46 = .ok (.invokevirtual 293, 3) := by decide +kernel
theorem dX11_sheet_49 : decode cX11_sheet 49 = .ok (.ifCond .eq 7, 3) := by decide +kernel
theorem dX11_sheet_52 : decode cX11_sheet 52 = .ok (.iconst 1, 1) := by decide +kernel
theorem dX11_sheet_53 : decode cX11_sheet 53 = .ok (.goto 4, 3) := by decide +kernel
theorem dX11_sheet_56 : decode cX11_sheet 56 = .ok (.iconst 0, 1) := by decide +kernel
theorem dX11_sheet_57 : decode cX11_sheet 57 = .ok (.ireturn, 1) := by decide +kernel
theorem dX11_cell_0 : decode cX11_cell 0 = .ok (.iload_n 0, 1) := by decide +kernel
theorem dX11_cell_1 : decode cX11_cell 1 = .ok (.bipush 8, 2) := by decide +kernel
theorem dX11_cell_3 : decode cX11_cell 3 = .ok (.imul, 1) := by decide +kernel
theorem dX11_cell_4 : decode cX11_cell 4 = .ok (.iload_n 1, 1) := by decide +kernel
theorem dX11_cell_5 : decode cX11_cell 5 = .ok (.iadd, 1) := by decide +kernel
theorem dX11_cell_6 : decode cX11_cell 6 = .ok (.iconst 4, 1) := by decide +kernel
theorem dX11_cell_7 : decode cX11_cell 7 = .ok (.imul, 1) := by decide +kernel
theorem dX11_cell_8 : decode cX11_cell 8 = .ok (.iload_n 2, 1) := by decide +kernel
theorem dX11_cell_9 : decode cX11_cell 9 = .ok (.iadd, 1) := by decide +kernel
theorem dX11_cell_10 : decode cX11_cell 10 = .ok (.ireturn, 1) := by decide +kernel
theorem dX11_clip_0 : decode cX11_clip 0 = .ok (.aload_n 0, 1) := by decide +kernel
theorem dX11_clip_1 : decode cX11_clip 1 = .ok (.getfield 65, 3) := by decide +kernel
theorem dX11_clip_4 : decode cX11_clip 4 = .ok (.aload_n 0, 1) := by decide +kernel
theorem dX11_clip_5 : decode cX11_clip 5 = .ok (.getfield 284, 3) := by decide +kernel
theorem dX11_clip_8 : decode cX11_clip 8 = .ok (.iconst 0, 1) := by decide +kernel
theorem dX11_clip_9 : decode cX11_clip 9 = .ok (.iastore, 1) := by decide +kernel
theorem dX11_clip_10 : decode cX11_clip 10 = .ok (.aload_n 0, 1) := by decide +kernel
theorem dX11_clip_11 : decode cX11_clip 11 = .ok (.getfield 68, 3) := by decide +kernel
theorem dX11_clip_14 : decode cX11_clip 14 = .ok (.aload_n 0, 1) := by decide +kernel
theorem dX11_clip_15 : decode cX11_clip 15 = .ok (.getfield 284, 3) := by decide +kernel
theorem dX11_clip_18 : decode cX11_clip 18 = .ok (.iconst 0, 1) := by decide +kernel
theorem dX11_clip_19 : decode cX11_clip 19 = .ok (.iastore, 1) := by decide +kernel
theorem dX11_clip_20 : decode cX11_clip 20 = .ok (.aload_n 0, 1) := by decide +kernel
theorem dX11_clip_21 : decode cX11_clip 21 = .ok (.getfield 284, 3) := by decide +kernel
theorem dX11_clip_24 : decode cX11_clip 24 = .ok (.iconst 1, 1) := by decide +kernel
theorem dX11_clip_25 : decode cX11_clip 25 = .ok (.isub, 1) := by decide +kernel
theorem dX11_clip_26 : decode cX11_clip 26 = .ok (.istore_n 1, 1) := by decide +kernel
theorem dX11_clip_27 : decode cX11_clip 27 = .ok (.iload_n 1, 1) := by decide +kernel
theorem dX11_clip_28 : decode cX11_clip 28 = .ok (.ifCond .lt 217, 3) := by decide +kernel
theorem dX11_clip_31 : decode cX11_clip 31 = .ok (.aload_n 0, 1) := by decide +kernel
theorem dX11_clip_32 : decode cX11_clip 32 = .ok (.getfield 65, 3) := by decide +kernel
theorem dX11_clip_35 : decode cX11_clip 35 = .ok (.iload_n 1, 1) := by decide +kernel
theorem dX11_clip_36 : decode cX11_clip 36 = .ok (.aload_n 0, 1) := by decide +kernel
theorem dX11_clip_37 : decode cX11_clip 37 = .ok (.getfield 65, 3) := by decide +kernel
theorem dX11_clip_40 : decode cX11_clip 40 = .ok (.iload_n 1, 1) := by decide +kernel
theorem dX11_clip_41 : decode cX11_clip 41 = .ok (.iconst 1, 1) := by decide +kernel
theorem dX11_clip_42 : decode cX11_clip 42 = .ok (.iadd, 1) := by decide +kernel
theorem dX11_clip_43 : decode cX11_clip 43 = .ok (.iaload, 1) := by decide +kernel
theorem dX11_clip_44 : decode cX11_clip 44 = .ok (.iastore, 1) := by decide +kernel
theorem dX11_clip_45 : decode cX11_clip 45 = .ok (.aload_n 0, 1) := by decide +kernel
theorem dX11_clip_46 : decode cX11_clip 46 = .ok (.getfield 68, 3) := by decide +kernel
theorem dX11_clip_49 : decode cX11_clip 49 = .ok (.iload_n 1, 1) := by decide +kernel
theorem dX11_clip_50 : decode cX11_clip 50 = .ok (.aload_n 0, 1) := by decide +kernel
theorem dX11_clip_51 : decode cX11_clip 51 = .ok (.getfield 68, 3) := by decide +kernel
theorem dX11_clip_54 : decode cX11_clip 54 = .ok (.iload_n 1, 1) := by decide +kernel
theorem dX11_clip_55 : decode cX11_clip 55 = .ok (.iconst 1, 1) := by decide +kernel
theorem dX11_clip_56 : decode cX11_clip 56 = .ok (.iadd, 1) := by decide +kernel
theorem dX11_clip_57 : decode cX11_clip 57 = .ok (.iaload, 1) := by decide +kernel
theorem dX11_clip_58 : decode cX11_clip 58 = .ok (.iastore, 1) := by decide +kernel
theorem dX11_clip_59 : decode cX11_clip 59 = .ok (.iconst 0, 1) := by decide +kernel
theorem dX11_clip_60 : decode cX11_clip 60 = .ok (.istore_n 2, 1) := by decide +kernel
theorem dX11_clip_61 : decode cX11_clip 61 = .ok (.iload_n 2, 1) := by decide +kernel
theorem dX11_clip_62 : decode cX11_clip 62 = .ok (.aload_n 0, 1) := by decide +kernel
theorem dX11_clip_63 : decode cX11_clip 63 = .ok (.getfield 278, 3) := by decide +kernel
theorem dX11_clip_66 : decode cX11_clip 66 = .ok (.if_icmp .ge 173, 3) := by decide +kernel
theorem dX11_clip_69 : decode cX11_clip 69 = .ok (.iconst 0, 1) := by decide +kernel
theorem dX11_clip_70 : decode cX11_clip 70 = .ok (.istore_n 3, 1) := by decide +kernel
theorem dX11_clip_71 : decode cX11_clip 71 = .ok (.iload_n 3, 1) := by decide +kernel
theorem dX11_clip_72 : decode cX11_clip 72 = .ok (.iconst 3, 1) := by decide +kernel
theorem dX11_clip_73 : decode cX11_clip 73 = .ok (.if_icmp .gt 160, 3) := by decide +kernel
theorem dX11_clip_76 : decode cX11_clip 76 = .ok (.iload_n 1, 1) := by decide +kernel
theorem dX11_clip_77 : decode cX11_clip 77 = .ok (.aload_n 0, 1) := by decide +kernel
theorem dX11_clip_78 : decode cX11_clip 78 = .ok (.getfield 20, 3) := by decide +kernel
theorem dX11_clip_81 : decode cX11_clip 81 = .ok (.iload_n 2, 1) := by decide +kernel
theorem dX11_clip_82 : decode cX11_clip 82 = .ok (.iaload, 1) := by decide +kernel
theorem dX11_clip_83 : decode cX11_clip 83 = .ok (.iadd, 1) := by decide +kernel
theorem dX11_clip_84 : decode cX11_clip 84 = .ok (.aload_n 0, 1) := by decide +kernel
theorem dX11_clip_85 : decode cX11_clip 85 = .ok (.getfield 284, 3) := by decide +kernel
theorem dX11_clip_88 : decode cX11_clip 88 = .ok (.if_icmp .gt 17, 3) := by decide +kernel
theorem dX11_clip_91 : decode cX11_clip 91 = .ok (.aload_n 0, 1) := by decide +kernel
theorem dX11_clip_92 : decode cX11_clip 92 = .ok (.iload_n 1, 1) := by decide +kernel
theorem dX11_clip_93 : decode cX11_clip 93 = .ok (.iload_n 2, 1) := by decide +kernel
theorem dX11_clip_94 : decode cX11_clip 94 = .ok (.iload_n 3, 1) := by decide +kernel
theorem dX11_clip_95 : decode cX11_clip 95 = .ok (.invokevirtual 293, 3) := by decide +kernel
theorem dX11_clip_98 : decode cX11_clip 98 = .ok (.ifCond .eq 7, 3) := by decide +kernel
theorem dX11_clip_101 : decode cX11_clip 101 = .ok (.iconst 1, 1) := by decide +kernel
theorem dX11_clip_102 : decode cX11_clip 102 = .ok (.goto 4, 3) := by decide +kernel
theorem dX11_clip_105 : decode cX11_clip 105 = .ok (.iconst 0, 1) := by decide +kernel
theorem dX11_clip_106 : decode cX11_clip 106 = .ok (.istore 4, 2) := by decide +kernel
theorem dX11_clip_108 : decode cX11_clip 108 = .ok (.aload_n 0, 1) := by decide +kernel
theorem dX11_clip_109 : decode cX11_clip 109 = .ok (.getfield 80, 3) := by decide +kernel
theorem dX11_clip_112 : decode cX11_clip 112 = .ok (.iload_n 1, 1) := by decide +kernel
theorem dX11_clip_113 : decode cX11_clip 113 = .ok (.iload_n 2, 1) := by decide +kernel
theorem dX11_clip_114 : decode cX11_clip 114 = .ok (.iload_n 3, 1) := by decide +kernel
theorem dX11_clip_115 : decode cX11_clip 115 = .ok (.invokestatic 296, 3) := by decide +kernel
theorem dX11_clip_118 : decode cX11_clip 118 = .ok (.iload 4, 2) := by decide +kernel
theorem dX11_clip_120 : decode cX11_clip 120 = .ok (.bastore, 1) := by decide +kernel
theorem dX11_clip_121 : decode cX11_clip 121 = .ok (.iload 4, 2) := by decide +kernel
theorem dX11_clip_123 : decode cX11_clip 123 = .ok (.ifCond .ne 6, 3) := by decide +kernel
theorem dX11_clip_126 : decode cX11_clip 126 = .ok (.goto 101, 3) := by decide +kernel
theorem dX11_clip_129 : decode cX11_clip 129 = .ok (.aload_n 0, 1) := by decide +kernel
theorem dX11_clip_130 : decode cX11_clip 130 = .ok (.getfield 23, 3) := by decide +kernel
theorem dX11_clip_133 : decode cX11_clip 133 = .ok (.iload_n 2, 1) := by decide +kernel
theorem dX11_clip_134 : decode cX11_clip 134 = .ok (.iaload, 1) := by decide +kernel
theorem dX11_clip_135 : decode cX11_clip 135 = .ok (.iload_n 3, 1) := by decide +kernel
theorem dX11_clip_136 : decode cX11_clip 136 = .ok (.aload_n 0, 1) := by decide +kernel
theorem dX11_clip_137 : decode cX11_clip 137 = .ok (.getfield 56, 3) := by decide +kernel
theorem dX11_clip_140 : decode cX11_clip 140 = .ok (.imul, 1) := by decide +kernel
theorem dX11_clip_141 : decode cX11_clip 141 = .ok (.isub, 1) := by decide +kernel
theorem dX11_clip_142 : decode cX11_clip 142 = .ok (.aload_n 0, 1) := by decide +kernel
theorem dX11_clip_143 : decode cX11_clip 143 = .ok (.getfield 65, 3) := by decide +kernel
theorem dX11_clip_146 : decode cX11_clip 146 = .ok (.iload_n 1, 1) := by decide +kernel
theorem dX11_clip_147 : decode cX11_clip 147 = .ok (.aload_n 0, 1) := by decide +kernel
theorem dX11_clip_148 : decode cX11_clip 148 = .ok (.getfield 20, 3) := by decide +kernel
theorem dX11_clip_151 : decode cX11_clip 151 = .ok (.iload_n 2, 1) := by decide +kernel
theorem dX11_clip_152 : decode cX11_clip 152 = .ok (.iaload, 1) := by decide +kernel
theorem dX11_clip_153 : decode cX11_clip 153 = .ok (.iadd, 1) := by decide +kernel
theorem dX11_clip_154 : decode cX11_clip 154 = .ok (.iaload, 1) := by decide +kernel
theorem dX11_clip_155 : decode cX11_clip 155 = .ok (.iadd, 1) := by decide +kernel
theorem dX11_clip_156 : decode cX11_clip 156 = .ok (.istore 5, 2) := by decide +kernel
theorem dX11_clip_158 : decode cX11_clip 158 = .ok (.iconst 1, 1) := by decide +kernel
theorem dX11_clip_159 : decode cX11_clip 159 = .ok (.aload_n 0, 1) := by decide +kernel
theorem dX11_clip_160 : decode cX11_clip 160 = .ok (.getfield 68, 3) := by decide +kernel
theorem dX11_clip_163 : decode cX11_clip 163 = .ok (.iload_n 1, 1) := by decide +kernel
theorem dX11_clip_164 : decode cX11_clip 164 = .ok (.aload_n 0, 1) := by decide +kernel
theorem dX11_clip_165 : decode cX11_clip 165 = .ok (.getfield 20, 3) := by decide +kernel
theorem dX11_clip_168 : decode cX11_clip 168 = .ok (.iload_n 2, 1) := by decide +kernel
theorem dX11_clip_169 : decode cX11_clip 169 = .ok (.iaload, 1) := by decide +kernel
theorem dX11_clip_170 : decode cX11_clip 170 = .ok (.iadd, 1) := by decide +kernel
theorem dX11_clip_171 : decode cX11_clip 171 = .ok (.iaload, 1) := by decide +kernel
theorem dX11_clip_172 : decode cX11_clip 172 = .ok (.iadd, 1) := by decide +kernel
theorem dX11_clip_173 : decode cX11_clip 173 = .ok (.istore 6, 2) := by decide +kernel
theorem dX11_clip_175 : decode cX11_clip 175 = .ok (.iload 5, 2) := by decide +kernel
theorem dX11_clip_177 : decode cX11_clip 177 = .ok (.aload_n 0, 1) := by decide +kernel
theorem dX11_clip_178 : decode cX11_clip 178 = .ok (.getfield 65, 3) := by decide +kernel
theorem dX11_clip_181 : decode cX11_clip 181 = .ok (.iload_n 1, 1) := by decide +kernel
theorem dX11_clip_182 : decode cX11_clip 182 = .ok (.iaload, 1) := by decide +kernel
theorem dX11_clip_183 : decode cX11_clip 183 = .ok (.if_icmp .lt 44, 3) := by decide +kernel
theorem dX11_clip_186 : decode cX11_clip 186 = .ok (.iload 5, 2) := by decide +kernel
theorem dX11_clip_188 : decode cX11_clip 188 = .ok (.aload_n 0, 1) := by decide +kernel
theorem dX11_clip_189 : decode cX11_clip 189 = .ok (.getfield 65, 3) := by decide +kernel
theorem dX11_clip_192 : decode cX11_clip 192 = .ok (.iload_n 1, 1) := by decide +kernel
theorem dX11_clip_193 : decode cX11_clip 193 = .ok (.iaload, 1) := by decide +kernel
theorem dX11_clip_194 : decode cX11_clip 194 = .ok (.if_icmp .ne 17, 3) := by decide +kernel
theorem dX11_clip_197 : decode cX11_clip 197 = .ok (.iload 6, 2) := by decide +kernel
theorem dX11_clip_199 : decode cX11_clip 199 = .ok (.aload_n 0, 1) := by decide +kernel
theorem dX11_clip_200 : decode cX11_clip 200 = .ok (.getfield 68, 3) := by decide +kernel
theorem dX11_clip_203 : decode cX11_clip 203 = .ok (.iload_n 1, 1) := by decide +kernel
theorem dX11_clip_204 : decode cX11_clip 204 = .ok (.iaload, 1) := by decide +kernel
theorem dX11_clip_205 : decode cX11_clip 205 = .ok (.if_icmp .lt 6, 3) := by decide +kernel
theorem dX11_clip_208 : decode cX11_clip 208 = .ok (.goto 19, 3) := by decide +kernel
theorem dX11_clip_211 : decode cX11_clip 211 = .ok (.aload_n 0, 1) := by decide +kernel
theorem dX11_clip_212 : decode cX11_clip 212 = .ok (.getfield 65, 3) := by decide +kernel
theorem dX11_clip_215 : decode cX11_clip 215 = .ok (.iload_n 1, 1) := by decide +kernel
theorem dX11_clip_216 : decode cX11_clip 216 = .ok (.iload 5, 2) := by decide +kernel
theorem dX11_clip_218 : decode cX11_clip 218 = .ok (.iastore, 1) := by decide +kernel
theorem dX11_clip_219 : decode cX11_clip 219 = .ok (.aload_n 0, 1) := by decide +kernel
theorem dX11_clip_220 : decode cX11_clip 220 = .ok (.getfield 68, 3) := by decide +kernel
theorem dX11_clip_223 : decode cX11_clip 223 = .ok (.iload_n 1, 1) := by decide +kernel
theorem dX11_clip_224 : decode cX11_clip 224 = .ok (.iload 6, 2) := by decide +kernel
theorem dX11_clip_226 : decode cX11_clip 226 = .ok (.iastore, 1) := by decide +kernel
theorem dX11_clip_227 : decode cX11_clip 227 = .ok (.iinc 3 1, 3) := by decide +kernel
theorem dX11_clip_230 : decode cX11_clip 230 = .ok (.goto (-159), 3) := by decide +kernel
theorem dX11_clip_233 : decode cX11_clip 233 = .ok (.iinc 2 1, 3) := by decide +kernel
theorem dX11_clip_236 : decode cX11_clip 236 = .ok (.goto (-175), 3) := by decide +kernel
theorem dX11_clip_239 : decode cX11_clip 239 = .ok (.iinc 1 (-1), 3) := by decide +kernel
theorem dX11_clip_242 : decode cX11_clip 242 = .ok (.goto (-215), 3) := by decide +kernel
theorem dX11_clip_245 : decode cX11_clip 245 = .ok (.aload_n 0, 1) := by decide +kernel
theorem dX11_clip_246 : decode cX11_clip 246 = .ok (.iconst 0, 1) := by decide +kernel
theorem dX11_clip_247 : decode cX11_clip 247 = .ok (.putfield 300, 3) := by decide +kernel
theorem dX11_clip_250 : decode cX11_clip 250 = .ok (.iconst 0, 1) := by decide +kernel
theorem dX11_clip_251 : decode cX11_clip 251 = .ok (.istore_n 1, 1) := by decide +kernel
theorem dX11_clip_252 : decode cX11_clip 252 = .ok (.iload_n 1, 1) := by decide +kernel
theorem dX11_clip_253 : decode cX11_clip 253 = .ok (.aload_n 0, 1) := by decide +kernel
theorem dX11_clip_254 : decode cX11_clip 254 = .ok (.getfield 284, 3) := by decide +kernel
theorem dX11_clip_257 : decode cX11_clip 257 = .ok (.if_icmp .ge 204, 3) := by decide +kernel
theorem dX11_clip_260 : decode cX11_clip 260 = .ok (.aload_n 0, 1) := by decide +kernel
theorem dX11_clip_261 : decode cX11_clip 261 = .ok (.getfield 300, 3) := by decide +kernel
theorem dX11_clip_264 : decode cX11_clip 264 = .ok (.istore_n 2, 1) := by decide +kernel
theorem dX11_clip_265 : decode cX11_clip 265 = .ok (.iconst 0, 1) := by decide +kernel
theorem dX11_clip_266 : decode cX11_clip 266 = .ok (.istore_n 3, 1) := by decide +kernel
theorem dX11_clip_267 : decode cX11_clip 267 = .ok (.iload_n 3, 1) := by decide +kernel
theorem dX11_clip_268 : decode cX11_clip 268 = .ok (.aload_n 0, 1) := by decide +kernel
theorem dX11_clip_269 : decode cX11_clip 269 = .ok (.getfield 278, 3) := by decide +kernel
theorem dX11_clip_272 : decode cX11_clip 272 = .ok (.if_icmp .ge 160, 3) := by decide +kernel
theorem dX11_clip_275 : decode cX11_clip 275 = .ok (.aload_n 0, 1) := by decide +kernel
theorem dX11_clip_276 : decode cX11_clip 276 = .ok (.getfield 300, 3) := by decide +kernel
theorem dX11_clip_279 : decode cX11_clip 279 = .ok (.iload_n 2, 1) := by decide +kernel
theorem dX11_clip_280 : decode cX11_clip 280 = .ok (.if_icmp .ne 152, 3) := by decide +kernel
theorem dX11_clip_283 : decode cX11_clip 283 = .ok (.iconst 0, 1) := by decide +kernel
theorem dX11_clip_284 : decode cX11_clip 284 = .ok (.istore 4, 2) := by decide +kernel
theorem dX11_clip_286 : decode cX11_clip 286 = .ok (.iload 4, 2) := by decide +kernel
theorem dX11_clip_288 : decode cX11_clip 288 = .ok (.iconst 3, 1) := by decide +kernel
theorem dX11_clip_289 : decode cX11_clip 289 = .ok (.if_icmp .gt 137, 3) := by decide +kernel
theorem dX11_clip_292 : decode cX11_clip 292 = .ok (.aload_n 0, 1) := by decide +kernel
theorem dX11_clip_293 : decode cX11_clip 293 = .ok (.getfield 300, 3) := by decide +kernel
theorem dX11_clip_296 : decode cX11_clip 296 = .ok (.iload_n 2, 1) := by decide +kernel
theorem dX11_clip_297 : decode cX11_clip 297 = .ok (.if_icmp .ne 129, 3) := by decide +kernel
theorem dX11_clip_300 : decode cX11_clip 300 = .ok (.aload_n 0, 1) := by decide +kernel
theorem dX11_clip_301 : decode cX11_clip 301 = .ok (.getfield 80, 3) := by decide +kernel
theorem dX11_clip_304 : decode cX11_clip 304 = .ok (.iload_n 1, 1) := by decide +kernel
theorem dX11_clip_305 : decode cX11_clip 305 = .ok (.iload_n 3, 1) := by decide +kernel
theorem dX11_clip_306 : decode cX11_clip 306 = .ok (.iload 4, 2) := by decide +kernel
theorem dX11_clip_308 : decode cX11_clip 308 = .ok (.invokestatic 296, 3) := by decide +kernel
theorem dX11_clip_311 : decode cX11_clip 311 = .ok (.baload, 1) := by decide +kernel
theorem dX11_clip_312 : decode cX11_clip 312 = .ok (.ifCond .eq 108, 3) := by decide +kernel
theorem dX11_clip_315 : decode cX11_clip 315 = .ok (.aload_n 0, 1) := by decide +kernel
theorem dX11_clip_316 : decode cX11_clip 316 = .ok (.getfield 23, 3) := by decide +kernel
theorem dX11_clip_319 : decode cX11_clip 319 = .ok (.iload_n 3, 1) := by decide +kernel
theorem dX11_clip_320 : decode cX11_clip 320 = .ok (.iaload, 1) := by decide +kernel
theorem dX11_clip_321 : decode cX11_clip 321 = .ok (.iload 4, 2) := by decide +kernel
theorem dX11_clip_323 : decode cX11_clip 323 = .ok (.aload_n 0, 1) := by decide +kernel
theorem dX11_clip_324 : decode cX11_clip 324 = .ok (.getfield 56, 3) := by decide +kernel
theorem dX11_clip_327 : decode cX11_clip 327 = .ok (.imul, 1) := by decide +kernel
theorem dX11_clip_328 : decode cX11_clip 328 = .ok (.isub, 1) := by decide +kernel
theorem dX11_clip_329 : decode cX11_clip 329 = .ok (.aload_n 0, 1) := by decide +kernel
theorem dX11_clip_330 : decode cX11_clip 330 = .ok (.getfield 65, 3) := by decide +kernel
theorem dX11_clip_333 : decode cX11_clip 333 = .ok (.iload_n 1, 1) := by decide +kernel
theorem dX11_clip_334 : decode cX11_clip 334 = .ok (.aload_n 0, 1) := by decide +kernel
theorem dX11_clip_335 : decode cX11_clip 335 = .ok (.getfield 20, 3) := by decide +kernel
theorem dX11_clip_338 : decode cX11_clip 338 = .ok (.iload_n 3, 1) := by decide +kernel
theorem dX11_clip_339 : decode cX11_clip 339 = .ok (.iaload, 1) := by decide +kernel
theorem dX11_clip_340 : decode cX11_clip 340 = .ok (.iadd, 1) := by decide +kernel
theorem dX11_clip_341 : decode cX11_clip 341 = .ok (.iaload, 1) := by decide +kernel
theorem dX11_clip_342 : decode cX11_clip 342 = .ok (.iadd, 1) := by decide +kernel
theorem dX11_clip_343 : decode cX11_clip 343 = .ok (.aload_n 0, 1) := by decide +kernel
theorem dX11_clip_344 : decode cX11_clip 344 = .ok (.getfield 65, 3) := by decide +kernel
theorem dX11_clip_347 : decode cX11_clip 347 = .ok (.iload_n 1, 1) := by decide +kernel
theorem dX11_clip_348 : decode cX11_clip 348 = .ok (.iaload, 1) := by decide +kernel
theorem dX11_clip_349 : decode cX11_clip 349 = .ok (.if_icmp .ne 71, 3) := by decide +kernel
theorem dX11_clip_352 : decode cX11_clip 352 = .ok (.iconst 1, 1) := by decide +kernel
theorem dX11_clip_353 : decode cX11_clip 353 = .ok (.aload_n 0, 1) := by decide +kernel
theorem dX11_clip_354 : decode cX11_clip 354 = .ok (.getfield 68, 3) := by decide +kernel
theorem dX11_clip_357 : decode cX11_clip 357 = .ok (.iload_n 1, 1) := by decide +kernel
theorem dX11_clip_358 : decode cX11_clip 358 = .ok (.aload_n 0, 1) := by decide +kernel
theorem dX11_clip_359 : decode cX11_clip 359 = .ok (.getfield 20, 3) := by decide +kernel
theorem dX11_clip_362 : decode cX11_clip 362 = .ok (.iload_n 3, 1) := by decide +kernel
theorem dX11_clip_363 : decode cX11_clip 363 = .ok (.iaload, 1) := by decide +kernel
theorem dX11_clip_364 : decode cX11_clip 364 = .ok (.iadd, 1) := by decide +kernel
theorem dX11_clip_365 : decode cX11_clip 365 = .ok (.iaload, 1) := by decide +kernel
theorem dX11_clip_366 : decode cX11_clip 366 = .ok (.iadd, 1) := by decide +kernel
theorem dX11_clip_367 : decode cX11_clip 367 = .ok (.aload_n 0, 1) := by decide +kernel
theorem dX11_clip_368 : decode cX11_clip 368 = .ok (.getfield 68, 3) := by decide +kernel
theorem dX11_clip_371 : decode cX11_clip 371 = .ok (.iload_n 1, 1) := by decide +kernel
theorem dX11_clip_372 : decode cX11_clip 372 = .ok (.iaload, 1) := by decide +kernel
theorem dX11_clip_373 : decode cX11_clip 373 = .ok (.if_icmp .eq 6, 3) := by decide +kernel
theorem dX11_clip_376 : decode cX11_clip 376 = .ok (.goto 44, 3) := by decide +kernel
theorem dX11_clip_379 : decode cX11_clip 379 = .ok (.aload_n 0, 1) := by decide +kernel
theorem dX11_clip_380 : decode cX11_clip 380 = .ok (.getfield 71, 3) := by decide +kernel
theorem dX11_clip_383 : decode cX11_clip 383 = .ok (.aload_n 0, 1) := by decide +kernel
theorem dX11_clip_384 : decode cX11_clip 384 = .ok (.getfield 300, 3) := by decide +kernel
theorem dX11_clip_387 : decode cX11_clip 387 = .ok (.iload_n 1, 1) := by decide +kernel
theorem dX11_clip_388 : decode cX11_clip 388 = .ok (.iastore, 1) := by decide +kernel
theorem dX11_clip_389 : decode cX11_clip 389 = .ok (.aload_n 0, 1) := by decide +kernel
theorem dX11_clip_390 : decode cX11_clip 390 = .ok (.getfield 74, 3) := by decide +kernel
theorem dX11_clip_393 : decode cX11_clip 393 = .ok (.aload_n 0, 1) := by decide +kernel
theorem dX11_clip_394 : decode cX11_clip 394 = .ok (.getfield 300, 3) := by decide +kernel
theorem dX11_clip_397 : decode cX11_clip 397 = .ok (.iload_n 3, 1) := by decide +kernel
theorem dX11_clip_398 : decode cX11_clip 398 = .ok (.iastore, 1) := by decide +kernel
theorem dX11_clip_399 : decode cX11_clip 399 = .ok (.aload_n 0, 1) := by decide +kernel
theorem dX11_clip_400 : decode cX11_clip 400 = .ok (.getfield 77, 3) := by decide +kernel
theorem dX11_clip_403 : decode cX11_clip 403 = .ok (.aload_n 0, 1) := by decide +kernel
theorem dX11_clip_404 : decode cX11_clip 404 = .ok (.getfield 300, 3) := by decide +kernel
theorem dX11_clip_407 : decode cX11_clip 407 = .ok (.iload 4, 2) := by decide +kernel
theorem dX11_clip_409 : decode cX11_clip 409 = .ok (.iastore, 1) := by decide +kernel
theorem dX11_clip_410 : decode cX11_clip 410 = .ok (.aload_n 0, 1) := by decide +kernel
theorem dX11_clip_411 : decode cX11_clip 411 = .ok (.dup, 1) := by decide +kernel
theorem dX11_clip_412 : decode cX11_clip 412 = .ok (.getfield 300, 3) := by decide +kernel
theorem dX11_clip_415 : decode cX11_clip 415 = .ok (.iconst 1, 1) := by decide +kernel
theorem dX11_clip_416 : decode cX11_clip 416 = .ok (.iadd, 1) := by decide +kernel
theorem dX11_clip_417 : decode cX11_clip 417 = .ok (.putfield 300, 3) := by decide +kernel
theorem dX11_clip_420 : decode cX11_clip 420 = .ok (.iinc 4 1, 3) := by decide +kernel
theorem dX11_clip_423 : decode cX11_clip 423 = .ok (.goto (-137), 3) := by decide +kernel
theorem dX11_clip_426 : decode cX11_clip 426 = .ok (.iinc 3 1, 3) := by decide +kernel
theorem dX11_clip_429 : decode cX11_clip 429 = .ok (.goto (-162), 3) := by decide +kernel
theorem dX11_clip_432 : decode cX11_clip 432 = .ok (.iload_n 1, 1) := by decide +kernel
theorem dX11_clip_433 : decode cX11_clip 433 = .ok (.aload_n 0, 1) := by decide +kernel
theorem dX11_clip_434 : decode cX11_clip 434 = .ok (.getfield 300, 3) := by decide +kernel
theorem dX11_clip_437 : decode cX11_clip 437 = .ok (.iload_n 2, 1) := by decide +kernel
theorem dX11_clip_438 : decode cX11_clip 438 = .ok (.if_icmp .le 17, 3) := by decide +kernel
theorem dX11_clip_441 : decode cX11_clip 441 = .ok (.aload_n 0, 1) := by decide +kernel
theorem dX11_clip_442 : decode cX11_clip 442 = .ok (.getfield 20, 3) := by decide +kernel
theorem dX11_clip_445 : decode cX11_clip 445 = .ok (.aload_n 0, 1) := by decide +kernel
theorem dX11_clip_446 : decode cX11_clip 446 = .ok (.getfield 74, 3) := by decide +kernel
theorem dX11_clip_449 : decode cX11_clip 449 = .ok (.iload_n 2, 1) := by decide +kernel
theorem dX11_clip_450 : decode cX11_clip 450 = .ok (.iaload, 1) := by decide +kernel
theorem dX11_clip_451 : decode cX11_clip 451 = .ok (.iaload, 1) := by decide +kernel
theorem dX11_clip_452 : decode cX11_clip 452 = .ok (.goto 4, 3) := by decide +kernel
theorem dX11_clip_455 : decode cX11_clip 455 = .ok (.iconst 1, 1) := by decide +kernel
theorem dX11_clip_456 : decode cX11_clip 456 = .ok (.iadd, 1) := by decide +kernel
theorem dX11_clip_457 : decode cX11_clip 457 = .ok (.istore_n 1, 1) := by decide +kernel
theorem dX11_clip_458 : decode cX11_clip 458 = .ok (.goto (-206), 3) := by decide +kernel
theorem dX11_clip_461 : decode cX11_clip 461 = .ok (.return_, 1) := by decide +kernel
theorem dX11_worth_0 : decode cX11_worth 0 = .ok (.aload_n 0, 1) := by decide +kernel
theorem dX11_worth_1 : decode cX11_worth 1 = .ok (.invokevirtual 303, 3) := by decide +kernel
theorem dX11_worth_4 : decode cX11_worth 4 = .ok (.aload_n 0, 1) := by decide +kernel
theorem dX11_worth_5 : decode cX11_worth 5 = .ok (.getfield 65, 3) := by decide +kernel
theorem dX11_worth_8 : decode cX11_worth 8 = .ok (.iconst 0, 1) := by decide +kernel
theorem dX11_worth_9 : decode cX11_worth 9 = .ok (.iaload, 1) := by decide +kernel
theorem dX11_worth_10 : decode cX11_worth 10 = .ok (.ireturn, 1) := by decide +kernel
theorem dX11_sheets_0 : decode cX11_sheets 0 = .ok (.aload_n 0, 1) := by decide +kernel
theorem dX11_sheets_1 : decode cX11_sheets 1 = .ok (.invokevirtual 303, 3) := by decide +kernel
theorem dX11_sheets_4 : decode cX11_sheets 4 = .ok (.aload_n 0, 1) := by decide +kernel
theorem dX11_sheets_5 : decode cX11_sheets 5 = .ok (.getfield 300, 3) := by decide +kernel
theorem dX11_sheets_8 : decode cX11_sheets 8 = .ok (.ireturn, 1) := by decide +kernel
theorem dX11_clipped_0 : decode cX11_clipped 0 = .ok (.aload_n 0, 1) := by decide +kernel
theorem dX11_clipped_1 : decode cX11_clipped 1 = .ok (.invokevirtual 303, 3) := by decide +kernel
theorem dX11_clipped_4 : decode cX11_clipped 4 = .ok (.iload_n 1, 1) := by decide +kernel
theorem dX11_clipped_5 : decode cX11_clipped 5 = .ok (.ifCond .lt 11, 3) := by decide +kernel
theorem dX11_clipped_8 : decode cX11_clipped 8 = .ok (.iload_n 1, 1) := by decide +kernel
theorem dX11_clipped_9 : decode cX11_clipped 9 = .ok (.aload_n 0, 1) := by decide +kernel
theorem dX11_clipped_10 : decode cX11_clipped 10 = .ok (.getfield 300, 3) := by decide +kernel
theorem dX11_clipped_13 : decode cX11_clipped 13 = .ok (.if_icmp .lt 7, 3) := by decide +kernel
theorem dX11_clipped_16 : decode cX11_clipped 16 = .ok (.iconst (-1), 1) := by decide +kernel
theorem dX11_clipped_17 : decode cX11_clipped 17 = .ok (.goto 45, 3) := by decide +kernel
theorem dX11_clipped_20 : decode cX11_clipped 20 = .ok (.iload_n 2, 1) := by decide +kernel
theorem dX11_clipped_21 : decode cX11_clipped 21 = .ok (.ifCond .ne 12, 3) := by decide +kernel
theorem dX11_clipped_24 : decode cX11_clipped 24 = .ok (.aload_n 0, 1) := by decide +kernel
theorem dX11_clipped_25 : decode cX11_clipped 25 = .ok (.getfield 71, 3) := by decide +kernel
theorem dX11_clipped_28 : decode cX11_clipped 28 = .ok (.iload_n 1, 1) := by decide +kernel
theorem dX11_clipped_29 : decode cX11_clipped 29 = .ok (.iaload, 1) := by decide +kernel
theorem dX11_clipped_30 : decode cX11_clipped 30 = .ok (.goto 32, 3) := by decide +kernel
theorem dX11_clipped_33 : decode cX11_clipped 33 = .ok (.iload_n 2, 1) := by decide +kernel
theorem dX11_clipped_34 : decode cX11_clipped 34 = .ok (.iconst 1, 1) := by decide +kernel
theorem dX11_clipped_35 : decode cX11_clipped 35 = .ok (.if_icmp .ne 12, 3) := by decide +kernel
theorem dX11_clipped_38 : decode cX11_clipped 38 = .ok (.aload_n 0, 1) := by decide +kernel
theorem dX11_clipped_39 : decode cX11_clipped 39 = .ok (.getfield 74, 3) := by decide +kernel
theorem dX11_clipped_42 : decode cX11_clipped 42 = .ok (.iload_n 1, 1) := by decide +kernel
theorem dX11_clipped_43 : decode cX11_clipped 43 = .ok (.iaload, 1) := by decide +kernel
theorem dX11_clipped_44 : decode cX11_clipped 44 = .ok (.goto 18, 3) := by decide +kernel
theorem dX11_clipped_47 : decode cX11_clipped 47 = .ok (.iload_n 2, 1) := by decide +kernel
theorem dX11_clipped_48 : decode cX11_clipped 48 = .ok (.iconst 2, 1) := by decide +kernel
theorem dX11_clipped_49 : decode cX11_clipped 49 = .ok (.if_icmp .ne 12, 3) := by decide +kernel
theorem dX11_clipped_52 : decode cX11_clipped 52 = .ok (.aload_n 0, 1) := by decide +kernel
theorem dX11_clipped_53 : decode cX11_clipped 53 = .ok (.getfield 77, 3) := by decide +kernel
theorem dX11_clipped_56 : decode cX11_clipped 56 = .ok (.iload_n 1, 1) := by decide +kernel
theorem dX11_clipped_57 : decode cX11_clipped 57 = .ok (.iaload, 1) := by decide +kernel
theorem dX11_clipped_58 : decode cX11_clipped 58 = .ok (.goto 4, 3) := by decide +kernel
theorem dX11_clipped_61 : decode cX11_clipped 61 = .ok (.iconst (-1), 1) := by decide +kernel
theorem dX11_clipped_62 : decode cX11_clipped 62 = .ok (.ireturn, 1) := by decide +kernel
theorem dX11_veneer_0 : decode cX11_veneer 0 = .ok (.iload_n 1, 1) := by decide +kernel
theorem dX11_veneer_1 : decode cX11_veneer 1 = .ok (.ifCond .lt 48, 3) := by decide +kernel
theorem dX11_veneer_4 : decode cX11_veneer 4 = .ok (.iload_n 1, 1) := by decide +kernel
theorem dX11_veneer_5 : decode cX11_veneer 5 = .ok (.bipush 6, 2) := by decide +kernel
theorem dX11_veneer_7 : decode cX11_veneer 7 = .ok (.if_icmp .ge 42, 3) := by decide +kernel
theorem dX11_veneer_10 : decode cX11_veneer 10 = .ok (.iload_n 2, 1) := by decide +kernel
theorem dX11_veneer_11 : decode cX11_veneer 11 = .ok (.iconst 1, 1) := by decide +kernel
theorem dX11_veneer_12 : decode cX11_veneer 12 = .ok (.if_icmp .lt 37, 3) := by decide +kernel
theorem dX11_veneer_15 : decode cX11_veneer 15 = .ok (.iload_n 2, 1) := by decide +kernel
theorem dX11_veneer_16 : decode cX11_veneer 16 = .ok (.bipush 90, 2) := by decide +kernel
theorem dX11_veneer_18 : decode cX11_veneer 18 = .ok (.if_icmp .gt 31, 3) := by decide +kernel
theorem dX11_veneer_21 : decode cX11_veneer 21 = .ok (.iload_n 3, 1) := by decide +kernel
theorem dX11_veneer_22 : decode cX11_veneer 22 = .ok (.ifCond .lt 27, 3) := by decide +kernel
theorem dX11_veneer_25 : decode cX11_veneer 25 = .ok (.iload_n 3, 1) := by decide +kernel
theorem dX11_veneer_26 : decode cX11_veneer 26 = .ok (.bipush 20, 2) := by decide +kernel
theorem dX11_veneer_28 : decode cX11_veneer 28 = .ok (.if_icmp .gt 21, 3) := by decide +kernel
theorem dX11_veneer_31 : decode cX11_veneer 31 = .ok (.iload_n 3, 1) := by decide +kernel
theorem dX11_veneer_32 : decode cX11_veneer 32 = .ok (.iload_n 2, 1) := by decide +kernel
theorem dX11_veneer_33 : decode cX11_veneer 33 = .ok (.if_icmp .gt 16, 3) := by decide +kernel
theorem dX11_veneer_36 : decode cX11_veneer 36 = .ok (.iload 4, 2) := by decide +kernel
theorem dX11_veneer_38 : decode cX11_veneer 38 = .ok (.ifCond .lt 11, 3) := by decide +kernel
theorem dX11_veneer_41 : decode cX11_veneer 41 = .ok (.iload 4, 2) := by decide +kernel
theorem dX11_veneer_43 : decode cX11_veneer 43 = .ok (.sipush 1000, 3) := by decide +kernel
theorem dX11_veneer_46 : decode cX11_veneer 46 = .ok (.if_icmp .le 5, 3) := by decide +kernel
theorem dX11_veneer_49 : decode cX11_veneer 49 = .ok (.iconst 0, 1) := by decide +kernel
theorem dX11_veneer_50 : decode cX11_veneer 50 = .ok (.ireturn, 1) := by decide +kernel
theorem dX11_veneer_51 : decode cX11_veneer 51 = .ok (.aload_n 0, 1) := by decide +kernel
theorem dX11_veneer_52 : decode cX11_veneer 52 = .ok (.getfield 84, 3) := by decide +kernel
theorem dX11_veneer_55 : decode cX11_veneer 55 = .ok (.iload_n 1, 1) := by decide +kernel
theorem dX11_veneer_56 : decode cX11_veneer 56 = .ok (.iload_n 2, 1) := by decide +kernel
theorem dX11_veneer_57 : decode cX11_veneer 57 = .ok (.iastore, 1) := by decide +kernel
theorem dX11_veneer_58 : decode cX11_veneer 58 = .ok (.aload_n 0, 1) := by decide +kernel
theorem dX11_veneer_59 : decode cX11_veneer 59 = .ok (.getfield 87, 3) := by decide +kernel
theorem dX11_veneer_62 : decode cX11_veneer 62 = .ok (.iload_n 1, 1) := by decide +kernel
theorem dX11_veneer_63 : decode cX11_veneer 63 = .ok (.iload_n 3, 1) := by decide +kernel
theorem dX11_veneer_64 : decode cX11_veneer 64 = .ok (.iastore, 1) := by decide +kernel
theorem dX11_veneer_65 : decode cX11_veneer 65 = .ok (.aload_n 0, 1) := by decide +kernel
theorem dX11_veneer_66 : decode cX11_veneer 66 = .ok (.getfield 90, 3) := by decide +kernel
theorem dX11_veneer_69 : decode cX11_veneer 69 = .ok (.iload_n 1, 1) := by decide +kernel
theorem dX11_veneer_70 : decode cX11_veneer 70 = .ok (.iload 4, 2) := by decide +kernel
theorem dX11_veneer_72 : decode cX11_veneer 72 = .ok (.iastore, 1) := by decide +kernel
theorem dX11_veneer_73 : decode cX11_veneer 73 = .ok (.aload_n 0, 1) := by decide +kernel
theorem dX11_veneer_74 : decode cX11_veneer 74 = .ok (.getfield 96, 3) := by decide +kernel
theorem dX11_veneer_77 : decode cX11_veneer 77 = .ok (.iload_n 1, 1) := by decide +kernel
theorem dX11_veneer_78 : decode cX11_veneer 78 = .ok (.iload 5, 2) := by decide +kernel
theorem dX11_veneer_80 : decode cX11_veneer 80 = .ok (.bastore, 1) := by decide +kernel
theorem dX11_veneer_81 : decode cX11_veneer 81 = .ok (.iconst 1, 1) := by decide +kernel
theorem dX11_veneer_82 : decode cX11_veneer 82 = .ok (.ireturn, 1) := by decide +kernel
theorem dX11_lays_0 : decode cX11_lays 0 = .ok (.iload_n 1, 1) := by decide +kernel
theorem dX11_lays_1 : decode cX11_lays 1 = .ok (.iconst 1, 1) := by decide +kernel
theorem dX11_lays_2 : decode cX11_lays 2 = .ok (.if_icmp .lt 21, 3) := by decide +kernel
theorem dX11_lays_5 : decode cX11_lays 5 = .ok (.iload_n 1, 1) := by decide +kernel
theorem dX11_lays_6 : decode cX11_lays 6 = .ok (.bipush 9, 2) := by decide +kernel
theorem dX11_lays_8 : decode cX11_lays 8 = .ok (.if_icmp .gt 15, 3) := by decide +kernel
theorem dX11_lays_11 : decode cX11_lays 11 = .ok (.iload_n 2, 1) := by decide +kernel
theorem dX11_lays_12 : decode cX11_lays 12 = .ok (.ifCond .lt 11, 3) := by decide +kernel
theorem dX11_lays_15 : decode cX11_lays 15 = .ok (.iload_n 2, 1) := by decide +kernel
theorem dX11_lays_16 : decode cX11_lays 16 = .ok (.iconst 3, 1) := by decide +kernel
theorem dX11_lays_17 : decode cX11_lays 17 = .ok (.iload_n 1, 1) := by decide +kernel
theorem dX11_lays_18 : decode cX11_lays 18 = .ok (.imul, 1) := by decide +kernel
theorem dX11_lays_19 : decode cX11_lays 19 = .ok (.ishr, 1) := by decide +kernel
theorem dX11_lays_20 : decode cX11_lays 20 = .ok (.ifCond .eq 5, 3) := by decide +kernel
theorem dX11_lays_23 : decode cX11_lays 23 = .ok (.iconst 0, 1) := by decide +kernel
theorem dX11_lays_24 : decode cX11_lays 24 = .ok (.ireturn, 1) := by decide +kernel
theorem dX11_lays_25 : decode cX11_lays 25 = .ok (.iconst 1, 1) := by decide +kernel
theorem dX11_lays_26 : decode cX11_lays 26 = .ok (.istore_n 3, 1) := by decide +kernel
theorem dX11_lays_27 : decode cX11_lays 27 = .ok (.iconst 0, 1) := by decide +kernel
theorem dX11_lays_28 : decode cX11_lays 28 = .ok (.istore 4, 2) := by decide +kernel
theorem dX11_lays_30 : decode cX11_lays 30 = .ok (.iload 4, 2) := by decide +kernel
theorem dX11_lays_32 : decode cX11_lays 32 = .ok (.iload_n 1, 1) := by decide +kernel
theorem dX11_lays_33 : decode cX11_lays 33 = .ok (.if_icmp .ge 47, 3) := by decide +kernel
theorem dX11_lays_36 : decode cX11_lays 36 = .ok (.aload_n 0, 1) := by decide +kernel
theorem dX11_lays_37 : decode cX11_lays 37 = .ok (.getfield 93, 3) := by decide +kernel
theorem dX11_lays_40 : decode cX11_lays 40 = .ok (.iload 4, 2) := by decide +kernel
theorem dX11_lays_42 : decode cX11_lays 42 = .ok (.iload_n 2, 1) := by decide +kernel
theorem dX11_lays_43 : decode cX11_lays 43 = .ok (.iconst 3, 1) := by decide +kernel
theorem dX11_lays_44 : decode cX11_lays 44 = .ok (.iload 4, 2) := by decide +kernel
theorem dX11_lays_46 : decode cX11_lays 46 = .ok (.imul, 1) := by decide +kernel
theorem dX11_lays_47 : decode cX11_lays 47 = .ok (.ishr, 1) := by decide +kernel
theorem dX11_lays_48 : decode cX11_lays 48 = .ok (.bipush 7, 2) := by decide +kernel
theorem dX11_lays_50 : decode cX11_lays 50 = .ok (.iand, 1) := by decide +kernel
theorem dX11_lays_51 : decode cX11_lays 51 = .ok (.iastore, 1) := by decide +kernel
theorem dX11_lays_52 : decode cX11_lays 52 = .ok (.iload_n 3, 1) := by decide +kernel
theorem dX11_lays_53 : decode cX11_lays 53 = .ok (.ifCond .eq 19, 3) := by decide +kernel
theorem dX11_lays_56 : decode cX11_lays 56 = .ok (.aload_n 0, 1) := by decide +kernel
theorem dX11_lays_57 : decode cX11_lays 57 = .ok (.getfield 93, 3) := by decide +kernel
theorem dX11_lays_60 : decode cX11_lays 60 = .ok (.iload 4, 2) := by decide +kernel
theorem dX11_lays_62 : decode cX11_lays 62 = .ok (.iaload, 1) := by decide +kernel
theorem dX11_lays_63 : decode cX11_lays 63 = .ok (.bipush 6, 2) := by decide +kernel
theorem dX11_lays_65 : decode cX11_lays 65 = .ok (.if_icmp .ge 7, 3) := by decide +kernel
theorem dX11_lays_68 : decode cX11_lays 68 = .ok (.iconst 1, 1) := by decide +kernel
theorem dX11_lays_69 : decode cX11_lays 69 = .ok (.goto 4, 3) := by decide +kernel
theorem dX11_lays_72 : decode cX11_lays 72 = .ok (.iconst 0, 1) := by decide +kernel
theorem dX11_lays_73 : decode cX11_lays 73 = .ok (.istore_n 3, 1) := by decide +kernel
theorem dX11_lays_74 : decode cX11_lays 74 = .ok (.iinc 4 1, 3) := by decide +kernel
theorem dX11_lays_77 : decode cX11_lays 77 = .ok (.goto (-47), 3) := by decide +kernel
theorem dX11_lays_80 : decode cX11_lays 80 = .ok (.iload_n 3, 1) := by decide +kernel
theorem dX11_lays_81 : decode cX11_lays 81 = .ok (.ireturn, 1) := by decide +kernel
theorem dX11_sum_0 : decode cX11_sum 0 = .ok (.iconst 0, 1) := by decide +kernel
theorem dX11_sum_1 : decode cX11_sum 1 = .ok (.istore_n 3, 1) := by decide +kernel
theorem dX11_sum_2 : decode cX11_sum 2 = .ok (.iconst 0, 1) := by decide +kernel
theorem dX11_sum_3 : decode cX11_sum 3 = .ok (.istore 4, 2) := by decide +kernel
theorem dX11_sum_5 : decode cX11_sum 5 = .ok (.iload 4, 2) := by decide +kernel
theorem dX11_sum_7 : decode cX11_sum 7 = .ok (.iload_n 1, 1) := by decide +kernel
theorem dX11_sum_8 : decode cX11_sum 8 = .ok (.if_icmp .ge 77, 3) := by decide +kernel
theorem dX11_sum_11 : decode cX11_sum 11 = .ok (.iload_n 3, 1) := by decide +kernel
theorem dX11_sum_12 : decode cX11_sum 12 = .ok (.iload_n 2, 1) := by decide +kernel
theorem dX11_sum_13 : decode cX11_sum 13 = .ok (.iconst 2, 1) := by decide +kernel
theorem dX11_sum_14 : decode cX11_sum 14 = .ok (.if_icmp .ne 18, 3) := by decide +kernel
theorem dX11_sum_17 : decode cX11_sum 17 = .ok (.aload_n 0, 1) := by decide +kernel
theorem dX11_sum_18 : decode cX11_sum 18 = .ok (.getfield 90, 3) := by decide +kernel
theorem dX11_sum_21 : decode cX11_sum 21 = .ok (.aload_n 0, 1) := by decide +kernel
theorem dX11_sum_22 : decode cX11_sum 22 = .ok (.getfield 93, 3) := by decide +kernel
theorem dX11_sum_25 : decode cX11_sum 25 = .ok (.iload 4, 2) := by decide +kernel
theorem dX11_sum_27 : decode cX11_sum 27 = .ok (.iaload, 1) := by decide +kernel
theorem dX11_sum_28 : decode cX11_sum 28 = .ok (.iaload, 1) := by decide +kernel
theorem dX11_sum_29 : decode cX11_sum 29 = .ok (.goto 48, 3) := by decide +kernel
theorem dX11_sum_32 : decode cX11_sum 32 = .ok (.aload_n 0, 1) := by decide +kernel
theorem dX11_sum_33 : decode cX11_sum 33 = .ok (.getfield 84, 3) := by decide +kernel
theorem dX11_sum_36 : decode cX11_sum 36 = .ok (.aload_n 0, 1) := by decide +kernel
theorem dX11_sum_37 : decode cX11_sum 37 = .ok (.getfield 93, 3) := by decide +kernel
theorem dX11_sum_40 : decode cX11_sum 40 = .ok (.iload 4, 2) := by decide +kernel
theorem dX11_sum_42 : decode cX11_sum 42 = .ok (.iaload, 1) := by decide +kernel
theorem dX11_sum_43 : decode cX11_sum 43 = .ok (.iaload, 1) := by decide +kernel
theorem dX11_sum_44 : decode cX11_sum 44 = .ok (.iload_n 2, 1) := by decide +kernel
theorem dX11_sum_45 : decode cX11_sum 45 = .ok (.ifCond .ne 19, 3) := by decide +kernel
theorem dX11_sum_48 : decode cX11_sum 48 = .ok (.aload_n 0, 1) := by decide +kernel
theorem dX11_sum_49 : decode cX11_sum 49 = .ok (.getfield 87, 3) := by decide +kernel
theorem dX11_sum_52 : decode cX11_sum 52 = .ok (.aload_n 0, 1) := by decide +kernel
theorem dX11_sum_53 : decode cX11_sum 53 = .ok (.getfield 93, 3) := by decide +kernel
theorem dX11_sum_56 : decode cX11_sum 56 = .ok (.iload 4, 2) := by decide +kernel
theorem dX11_sum_58 : decode cX11_sum 58 = .ok (.iaload, 1) := by decide +kernel
theorem dX11_sum_59 : decode cX11_sum 59 = .ok (.iaload, 1) := by decide +kernel
theorem dX11_sum_60 : decode cX11_sum 60 = .ok (.ineg, 1) := by decide +kernel
theorem dX11_sum_61 : decode cX11_sum 61 = .ok (.goto 15, 3) := by decide +kernel
theorem dX11_sum_64 : decode cX11_sum 64 = .ok (.aload_n 0, 1) := by decide +kernel
theorem dX11_sum_65 : decode cX11_sum 65 = .ok (.getfield 87, 3) := by decide +kernel
theorem dX11_sum_68 : decode cX11_sum 68 = .ok (.aload_n 0, 1) := by decide +kernel
theorem dX11_sum_69 : decode cX11_sum 69 = .ok (.getfield 93, 3) := by decide +kernel
theorem dX11_sum_72 : decode cX11_sum 72 = .ok (.iload 4, 2) := by decide +kernel
theorem dX11_sum_74 : decode cX11_sum 74 = .ok (.iaload, 1) := by decide +kernel
theorem dX11_sum_75 : decode cX11_sum 75 = .ok (.iaload, 1) := by decide +kernel
theorem dX11_sum_76 : decode cX11_sum 76 = .ok (.iadd, 1) := by decide +kernel
theorem dX11_sum_77 : decode cX11_sum 77 = .ok (.iadd, 1) := by decide +kernel
theorem dX11_sum_78 : decode cX11_sum 78 = .ok (.istore_n 3, 1) := by decide +kernel
theorem dX11_sum_79 : decode cX11_sum 79 = .ok (.iinc 4 1, 3) := by decide +kernel
theorem dX11_sum_82 : decode cX11_sum 82 = .ok (.goto (-77), 3) := by decide +kernel
theorem dX11_sum_85 : decode cX11_sum 85 = .ok (.iload_n 3, 1) := by decide +kernel
theorem dX11_sum_86 : decode cX11_sum 86 = .ok (.ireturn, 1) := by decide +kernel
theorem dX11_board_0 : decode cX11_board 0 = .ok (.iload_n 3, 1) := by decide +kernel
theorem dX11_board_1 : decode cX11_board 1 = .ok (.ifCond .lt 17, 3) := by decide +kernel
theorem dX11_board_4 : decode cX11_board 4 = .ok (.iload_n 3, 1) := by decide +kernel
theorem dX11_board_5 : decode cX11_board 5 = .ok (.iconst 2, 1) := by decide +kernel
theorem dX11_board_6 : decode cX11_board 6 = .ok (.if_icmp .gt 12, 3) := by decide +kernel
theorem dX11_board_9 : decode cX11_board 9 = .ok (.aload_n 0, 1) := by decide +kernel
theorem dX11_board_10 : decode cX11_board 10 = .ok (.iload_n 1, 1) := by decide +kernel
theorem dX11_board_11 : decode cX11_board 11 = .ok (.iload_n 2, 1) := by decide +kernel
theorem dX11_board_12 : decode cX11_board 12 = .ok (.invokevirtual 306, 3) := by decide +kernel
theorem dX11_board_15 : decode cX11_board 15 = .ok (.ifCond .ne 7, 3) := by decide +kernel
theorem dX11_board_18 : decode cX11_board 18 = .ok (.iconst (-1), 1) := by decide +kernel
theorem dX11_board_19 : decode cX11_board 19 = .ok (.goto 9, 3) := by decide +kernel
theorem dX11_board_22 : decode cX11_board 22 = .ok (.aload_n 0, 1) := by decide +kernel
theorem dX11_board_23 : decode cX11_board 23 = .ok (.iload_n 1, 1) := by decide +kernel
theorem dX11_board_24 : decode cX11_board 24 = .ok (.iload_n 3, 1) := by decide +kernel
theorem dX11_board_25 : decode cX11_board 25 = .ok (.invokevirtual 309, 3) := by decide +kernel
theorem dX11_board_28 : decode cX11_board 28 = .ok (.ireturn, 1) := by decide +kernel
theorem dX11_warp_0 : decode cX11_warp 0 = .ok (.aload_n 0, 1) := by decide +kernel
theorem dX11_warp_1 : decode cX11_warp 1 = .ok (.iload_n 1, 1) := by decide +kernel
theorem dX11_warp_2 : decode cX11_warp 2 = .ok (.iload_n 2, 1) := by decide +kernel
theorem dX11_warp_3 : decode cX11_warp 3 = .ok (.invokevirtual 306, 3) := by decide +kernel
theorem dX11_warp_6 : decode cX11_warp 6 = .ok (.ifCond .ne 7, 3) := by decide +kernel
