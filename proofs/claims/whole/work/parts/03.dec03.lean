theorem dX10_drop_7 : decode cX10_drop 7 = .ok (.ireturn, 1) := by decide +kernel
theorem dX10_plan_0 : decode cX10_plan 0 = .ok (.aload_n 0, 1) := by decide +kernel
theorem dX10_plan_1 : decode cX10_plan 1 = .ok (.getfield 63, 3) := by decide +kernel
theorem dX10_plan_4 : decode cX10_plan 4 = .ok (.invokevirtual 209, 3) := by decide +kernel
theorem dX10_plan_7 : decode cX10_plan 7 = .ok (.iload_n 1, 1) := by decide +kernel
theorem dX10_plan_8 : decode cX10_plan 8 = .ok (.tableswitch 74 0 3 #[32, 43, 51, 66], 32) := by decide +kernel
theorem dX10_plan_40 : decode cX10_plan 40 = .ok (.aload_n 0, 1) := by decide +kernel
theorem dX10_plan_41 : decode cX10_plan 41 = .ok (.getfield 63, 3) := by decide +kernel
theorem dX10_plan_44 : decode cX10_plan 44 = .ok (.getfield 210, 3) := by decide +kernel
theorem dX10_plan_47 : decode cX10_plan 47 = .ok (.invokestatic 213, 3) := by decide +kernel
theorem dX10_plan_50 : decode cX10_plan 50 = .ok (.ireturn, 1) := by decide +kernel
theorem dX10_plan_51 : decode cX10_plan 51 = .ok (.aload_n 0, 1) := by decide +kernel
theorem dX10_plan_52 : decode cX10_plan 52 = .ok (.getfield 63, 3) := by decide +kernel
theorem dX10_plan_55 : decode cX10_plan 55 = .ok (.getfield 210, 3) := by decide +kernel
theorem dX10_plan_58 : decode cX10_plan 58 = .ok (.ireturn, 1) := by decide +kernel
theorem dX10_plan_59 : decode cX10_plan 59 = .ok (.aload_n 0, 1) := by decide +kernel
theorem dX10_plan_60 : decode cX10_plan 60 = .ok (.getfield 63, 3) := by decide +kernel
theorem dX10_plan_63 : decode cX10_plan 63 = .ok (.aload_n 0, 1) := by decide +kernel
theorem dX10_plan_64 : decode cX10_plan 64 = .ok (.getfield 63, 3) := by decide +kernel
theorem dX10_plan_67 : decode cX10_plan 67 = .ok (.getfield 210, 3) := by decide +kernel
theorem dX10_plan_70 : decode cX10_plan 70 = .ok (.invokevirtual 218, 3) := by decide +kernel
theorem dX10_plan_73 : decode cX10_plan 73 = .ok (.ireturn, 1) := by decide +kernel
theorem dX10_plan_74 : decode cX10_plan 74 = .ok (.aload_n 0, 1) := by decide +kernel
theorem dX10_plan_75 : decode cX10_plan 75 = .ok (.getfield 63, 3) := by decide +kernel
theorem dX10_plan_78 : decode cX10_plan 78 = .ok (.getfield 221, 3) := by decide +kernel
theorem dX10_plan_81 : decode cX10_plan 81 = .ok (.ireturn, 1) := by decide +kernel
theorem dX10_plan_82 : decode cX10_plan 82 = .ok (.iconst (-1), 1) := by decide +kernel
theorem dX10_plan_83 : decode cX10_plan 83 = .ok (.ireturn, 1) := by decide +kernel
theorem dX10_load_0 : decode cX10_load 0 = .ok (.aload_n 0, 1) := by decide +kernel
theorem dX10_load_1 : decode cX10_load 1 = .ok (.getfield 63, 3) := by decide +kernel
theorem dX10_load_4 : decode cX10_load 4 = .ok (.invokevirtual 209, 3) := by decide +kernel
theorem dX10_load_7 : decode cX10_load 7 = .ok (.aload_n 0, 1) := by decide +kernel
theorem dX10_load_8 : decode cX10_load 8 = .ok (.getfield 63, 3) := by decide +kernel
theorem dX10_load_11 : decode cX10_load 11 = .ok (.iload_n 1, 1) := by decide +kernel
theorem dX10_load_12 : decode cX10_load 12 = .ok (.iload_n 2, 1) := by decide +kernel
theorem dX10_load_13 : decode cX10_load 13 = .ok (.invokevirtual 224, 3) := by decide +kernel
theorem dX10_load_16 : decode cX10_load 16 = .ok (.ireturn, 1) := by decide +kernel
theorem dX10_about_0 : decode cX10_about 0 = .ok (.iload_n 1, 1) := by decide +kernel
theorem dX10_about_1 : decode cX10_about 1 = .ok (.tableswitch 63 0 3 #[31, 39, 47, 55], 31) := by decide +kernel
theorem dX10_about_32 : decode cX10_about 32 = .ok (.aload_n 0, 1) := by decide +kernel
theorem dX10_about_33 : decode cX10_about 33 = .ok (.getfield 33, 3) := by decide +kernel
theorem dX10_about_36 : decode cX10_about 36 = .ok (.getfield 134, 3) := by decide +kernel
theorem dX10_about_39 : decode cX10_about 39 = .ok (.ireturn, 1) := by decide +kernel
theorem dX10_about_40 : decode cX10_about 40 = .ok (.aload_n 0, 1) := by decide +kernel
theorem dX10_about_41 : decode cX10_about 41 = .ok (.getfield 40, 3) := by decide +kernel
theorem dX10_about_44 : decode cX10_about 44 = .ok (.getfield 145, 3) := by decide +kernel
theorem dX10_about_47 : decode cX10_about 47 = .ok (.ireturn, 1) := by decide +kernel
theorem dX10_about_48 : decode cX10_about 48 = .ok (.aload_n 0, 1) := by decide +kernel
theorem dX10_about_49 : decode cX10_about 49 = .ok (.getfield 63, 3) := by decide +kernel
theorem dX10_about_52 : decode cX10_about 52 = .ok (.getfield 225, 3) := by decide +kernel
theorem dX10_about_55 : decode cX10_about 55 = .ok (.ireturn, 1) := by decide +kernel
theorem dX10_about_56 : decode cX10_about 56 = .ok (.aload_n 0, 1) := by decide +kernel
theorem dX10_about_57 : decode cX10_about 57 = .ok (.getfield 19, 3) := by decide +kernel
theorem dX10_about_60 : decode cX10_about 60 = .ok (.getfield 106, 3) := by decide +kernel
theorem dX10_about_63 : decode cX10_about 63 = .ok (.ireturn, 1) := by decide +kernel
theorem dX10_about_64 : decode cX10_about 64 = .ok (.iconst (-1), 1) := by decide +kernel
theorem dX10_about_65 : decode cX10_about 65 = .ok (.ireturn, 1) := by decide +kernel
theorem dX10_within_0 : decode cX10_within 0 = .ok (.iload_n 1, 1) := by decide +kernel
theorem dX10_within_1 : decode cX10_within 1 = .ok (.iload_n 0, 1) := by decide +kernel
theorem dX10_within_2 : decode cX10_within 2 = .ok (.if_icmp .gt 12, 3) := by decide +kernel
theorem dX10_within_5 : decode cX10_within 5 = .ok (.iload_n 0, 1) := by decide +kernel
theorem dX10_within_6 : decode cX10_within 6 = .ok (.iload_n 2, 1) := by decide +kernel
theorem dX10_within_7 : decode cX10_within 7 = .ok (.if_icmp .gt 7, 3) := by decide +kernel
theorem dX10_within_10 : decode cX10_within 10 = .ok (.iconst 1, 1) := by decide +kernel
theorem dX10_within_11 : decode cX10_within 11 = .ok (.goto 4, 3) := by decide +kernel
theorem dX10_within_14 : decode cX10_within 14 = .ok (.iconst 0, 1) := by decide +kernel
theorem dX10_within_15 : decode cX10_within 15 = .ok (.ireturn, 1) := by decide +kernel
theorem dX11_init_0 : decode cX11_init 0 = .ok (.aload_n 0, 1) := by decide +kernel
theorem dX11_init_1 : decode cX11_init 1 = .ok (.invokespecial 1, 3) := by decide +kernel
theorem dX11_init_4 : decode cX11_init 4 = .ok (.aload_n 0, 1) := by decide +kernel
theorem dX11_init_5 : decode cX11_init 5 = .ok (.bipush 24, 2) := by decide +kernel
theorem dX11_init_7 : decode cX11_init 7 = .ok (.newarray .int, 2) := by decide +kernel
theorem dX11_init_9 : decode cX11_init 9 = .ok (.putfield 7, 3) := by decide +kernel
theorem dX11_init_12 : decode cX11_init 12 = .ok (.aload_n 0, 1) := by decide +kernel
theorem dX11_init_13 : decode cX11_init 13 = .ok (.sipush 600, 3) := by decide +kernel
theorem dX11_init_16 : decode cX11_init 16 = .ok (.newarray .int, 2) := by decide +kernel
theorem dX11_init_18 : decode cX11_init 18 = .ok (.putfield 13, 3) := by decide +kernel
theorem dX11_init_21 : decode cX11_init 21 = .ok (.aload_n 0, 1) := by decide +kernel
theorem dX11_init_22 : decode cX11_init 22 = .ok (.iconst (-1), 1) := by decide +kernel
theorem dX11_init_23 : decode cX11_init 23 = .ok (.putfield 16, 3) := by decide +kernel
theorem dX11_init_26 : decode cX11_init 26 = .ok (.aload_n 0, 1) := by decide +kernel
theorem dX11_init_27 : decode cX11_init 27 = .ok (.bipush 8, 2) := by decide +kernel
theorem dX11_init_29 : decode cX11_init 29 = .ok (.newarray .int, 2) := by decide +kernel
theorem dX11_init_31 : decode cX11_init 31 = .ok (.putfield 20, 3) := by decide +kernel
theorem dX11_init_34 : decode cX11_init 34 = .ok (.aload_n 0, 1) := by decide +kernel
theorem dX11_init_35 : decode cX11_init 35 = .ok (.bipush 8, 2) := by decide +kernel
theorem dX11_init_37 : decode cX11_init 37 = .ok (.newarray .int, 2) := by decide +kernel
theorem dX11_init_39 : decode cX11_init 39 = .ok (.putfield 23, 3) := by decide +kernel
theorem dX11_init_42 : decode cX11_init 42 = .ok (.aload_n 0, 1) := by decide +kernel
theorem dX11_init_43 : decode cX11_init 43 = .ok (.sipush 600, 3) := by decide +kernel
theorem dX11_init_46 : decode cX11_init 46 = .ok (.newarray .int, 2) := by decide +kernel
theorem dX11_init_48 : decode cX11_init 48 = .ok (.putfield 26, 3) := by decide +kernel
theorem dX11_init_51 : decode cX11_init 51 = .ok (.aload_n 0, 1) := by decide +kernel
theorem dX11_init_52 : decode cX11_init 52 = .ok (.sipush 600, 3) := by decide +kernel
theorem dX11_init_55 : decode cX11_init 55 = .ok (.newarray .int, 2) := by decide +kernel
theorem dX11_init_57 : decode cX11_init 57 = .ok (.putfield 29, 3) := by decide +kernel
theorem dX11_init_60 : decode cX11_init 60 = .ok (.aload_n 0, 1) := by decide +kernel
theorem dX11_init_61 : decode cX11_init 61 = .ok (.bipush 9, 2) := by decide +kernel
theorem dX11_init_63 : decode cX11_init 63 = .ok (.newarray .int, 2) := by decide +kernel
theorem dX11_init_65 : decode cX11_init 65 = .ok (.putfield 32, 3) := by decide +kernel
theorem dX11_init_68 : decode cX11_init 68 = .ok (.aload_n 0, 1) := by decide +kernel
theorem dX11_init_69 : decode cX11_init 69 = .ok (.bipush 8, 2) := by decide +kernel
theorem dX11_init_71 : decode cX11_init 71 = .ok (.newarray .int, 2) := by decide +kernel
theorem dX11_init_73 : decode cX11_init 73 = .ok (.putfield 35, 3) := by decide +kernel
theorem dX11_init_76 : decode cX11_init 76 = .ok (.aload_n 0, 1) := by decide +kernel
theorem dX11_init_77 : decode cX11_init 77 = .ok (.bipush 8, 2) := by decide +kernel
theorem dX11_init_79 : decode cX11_init 79 = .ok (.newarray .int, 2) := by decide +kernel
theorem dX11_init_81 : decode cX11_init 81 = .ok (.putfield 38, 3) := by decide +kernel
theorem dX11_init_84 : decode cX11_init 84 = .ok (.aload_n 0, 1) := by decide +kernel
theorem dX11_init_85 : decode cX11_init 85 = .ok (.sipush 600, 3) := by decide +kernel
theorem dX11_init_88 : decode cX11_init 88 = .ok (.newarray .int, 2) := by decide +kernel
theorem dX11_init_90 : decode cX11_init 90 = .ok (.putfield 41, 3) := by decide +kernel
theorem dX11_init_93 : decode cX11_init 93 = .ok (.aload_n 0, 1) := by decide +kernel
theorem dX11_init_94 : decode cX11_init 94 = .ok (.sipush 600, 3) := by decide +kernel
theorem dX11_init_97 : decode cX11_init 97 = .ok (.newarray .int, 2) := by decide +kernel
theorem dX11_init_99 : decode cX11_init 99 = .ok (.putfield 44, 3) := by decide +kernel
theorem dX11_init_102 : decode cX11_init 102 = .ok (.aload_n 0, 1) := by decide +kernel
theorem dX11_init_103 : decode cX11_init 103 = .ok (.bipush 9, 2) := by decide +kernel
theorem dX11_init_105 : decode cX11_init 105 = .ok (.newarray .int, 2) := by decide +kernel
theorem dX11_init_107 : decode cX11_init 107 = .ok (.putfield 47, 3) := by decide +kernel
theorem dX11_init_110 : decode cX11_init 110 = .ok (.aload_n 0, 1) := by decide +kernel
theorem dX11_init_111 : decode cX11_init 111 = .ok (.sipush 300, 3) := by decide +kernel
theorem dX11_init_114 : decode cX11_init 114 = .ok (.newarray .int, 2) := by decide +kernel
theorem dX11_init_116 : decode cX11_init 116 = .ok (.putfield 50, 3) := by decide +kernel
theorem dX11_init_119 : decode cX11_init 119 = .ok (.aload_n 0, 1) := by decide +kernel
theorem dX11_init_120 : decode cX11_init 120 = .ok (.sipush 300, 3) := by decide +kernel
theorem dX11_init_123 : decode cX11_init 123 = .ok (.newarray .int, 2) := by decide +kernel
theorem dX11_init_125 : decode cX11_init 125 = .ok (.putfield 53, 3) := by decide +kernel
theorem dX11_init_128 : decode cX11_init 128 = .ok (.aload_n 0, 1) := by decide +kernel
theorem dX11_init_129 : decode cX11_init 129 = .ok (.iconst 1, 1) := by decide +kernel
theorem dX11_init_130 : decode cX11_init 130 = .ok (.putfield 56, 3) := by decide +kernel
theorem dX11_init_133 : decode cX11_init 133 = .ok (.aload_n 0, 1) := by decide +kernel
theorem dX11_init_134 : decode cX11_init 134 = .ok (.iconst 5, 1) := by decide +kernel
theorem dX11_init_135 : decode cX11_init 135 = .ok (.newarray .int, 2) := by decide +kernel
theorem dX11_init_137 : decode cX11_init 137 = .ok (.putfield 59, 3) := by decide +kernel
theorem dX11_init_140 : decode cX11_init 140 = .ok (.aload_n 0, 1) := by decide +kernel
theorem dX11_init_141 : decode cX11_init 141 = .ok (.sipush 200, 3) := by decide +kernel
theorem dX11_init_144 : decode cX11_init 144 = .ok (.newarray .int, 2) := by decide +kernel
theorem dX11_init_146 : decode cX11_init 146 = .ok (.putfield 62, 3) := by decide +kernel
theorem dX11_init_149 : decode cX11_init 149 = .ok (.aload_n 0, 1) := by decide +kernel
theorem dX11_init_150 : decode cX11_init 150 = .ok (.sipush 301, 3) := by decide +kernel
theorem dX11_init_153 : decode cX11_init 153 = .ok (.newarray .int, 2) := by decide +kernel
theorem dX11_init_155 : decode cX11_init 155 = .ok (.putfield 65, 3) := by decide +kernel
theorem dX11_init_158 : decode cX11_init 158 = .ok (.aload_n 0, 1) := by decide +kernel
theorem dX11_init_159 : decode cX11_init 159 = .ok (.sipush 301, 3) := by decide +kernel
theorem dX11_init_162 : decode cX11_init 162 = .ok (.newarray .int, 2) := by decide +kernel
theorem dX11_init_164 : decode cX11_init 164 = .ok (.putfield 68, 3) := by decide +kernel
theorem dX11_init_167 : decode cX11_init 167 = .ok (.aload_n 0, 1) := by decide +kernel
theorem dX11_init_168 : decode cX11_init 168 = .ok (.sipush 300, 3) := by decide +kernel
theorem dX11_init_171 : decode cX11_init 171 = .ok (.newarray .int, 2) := by decide +kernel
theorem dX11_init_173 : decode cX11_init 173 = .ok (.putfield 71, 3) := by decide +kernel
theorem dX11_init_176 : decode cX11_init 176 = .ok (.aload_n 0, 1) := by decide +kernel
theorem dX11_init_177 : decode cX11_init 177 = .ok (.sipush 300, 3) := by decide +kernel
theorem dX11_init_180 : decode cX11_init 180 = .ok (.newarray .int, 2) := by decide +kernel
theorem dX11_init_182 : decode cX11_init 182 = .ok (.putfield 74, 3) := by decide +kernel
theorem dX11_init_185 : decode cX11_init 185 = .ok (.aload_n 0, 1) := by decide +kernel
theorem dX11_init_186 : decode cX11_init 186 = .ok (.sipush 300, 3) := by decide +kernel
theorem dX11_init_189 : decode cX11_init 189 = .ok (.newarray .int, 2) := by decide +kernel
theorem dX11_init_191 : decode cX11_init 191 = .ok (.putfield 77, 3) := by decide +kernel
theorem dX11_init_194 : decode cX11_init 194 = .ok (.aload_n 0, 1) := by decide +kernel
theorem dX11_init_195 : decode cX11_init 195 = .ok (.sipush 9600, 3) := by decide +kernel
theorem dX11_init_198 : decode cX11_init 198 = .ok (.newarray .boolean, 2) := by decide +kernel
theorem dX11_init_200 : decode cX11_init 200 = .ok (.putfield 80, 3) := by decide +kernel
theorem dX11_init_203 : decode cX11_init 203 = .ok (.aload_n 0, 1) := by decide +kernel
theorem dX11_init_204 : decode cX11_init 204 = .ok (.bipush 6, 2) := by decide +kernel
theorem dX11_init_206 : decode cX11_init 206 = .ok (.newarray .int, 2) := by decide +kernel
theorem dX11_init_208 : decode cX11_init 208 = .ok (.putfield 84, 3) := by decide +kernel
theorem dX11_init_211 : decode cX11_init 211 = .ok (.aload_n 0, 1) := by decide +kernel
theorem dX11_init_212 : decode cX11_init 212 = .ok (.bipush 6, 2) := by decide +kernel
theorem dX11_init_214 : decode cX11_init 214 = .ok (.newarray .int, 2) := by decide +kernel
theorem dX11_init_216 : decode cX11_init 216 = .ok (.putfield 87, 3) := by decide +kernel
theorem dX11_init_219 : decode cX11_init 219 = .ok (.aload_n 0, 1) := by decide +kernel
theorem dX11_init_220 : decode cX11_init 220 = .ok (.bipush 6, 2) := by decide +kernel
theorem dX11_init_222 : decode cX11_init 222 = .ok (.newarray .int, 2) := by decide +kernel
theorem dX11_init_224 : decode cX11_init 224 = .ok (.putfield 90, 3) := by decide +kernel
theorem dX11_init_227 : decode cX11_init 227 = .ok (.aload_n 0, 1) := by decide +kernel
theorem dX11_init_228 : decode cX11_init 228 = .ok (.bipush 9, 2) := by decide +kernel
theorem dX11_init_230 : decode cX11_init 230 = .ok (.newarray .int, 2) := by decide +kernel
theorem dX11_init_232 : decode cX11_init 232 = .ok (.putfield 93, 3) := by decide +kernel
theorem dX11_init_235 : decode cX11_init 235 = .ok (.aload_n 0, 1) := by decide +kernel
theorem dX11_init_236 : decode cX11_init 236 = .ok (.bipush 6, 2) := by decide +kernel
theorem dX11_init_238 : decode cX11_init 238 = .ok (.newarray .boolean, 2) := by decide +kernel
theorem dX11_init_240 : decode cX11_init 240 = .ok (.putfield 96, 3) := by decide +kernel
theorem dX11_init_243 : decode cX11_init 243 = .ok (.aload_n 0, 1) := by decide +kernel
theorem dX11_init_244 : decode cX11_init 244 = .ok (.iconst 1, 1) := by decide +kernel
theorem dX11_init_245 : decode cX11_init 245 = .ok (.putfield 99, 3) := by decide +kernel
theorem dX11_init_248 : decode cX11_init 248 = .ok (.aload_n 0, 1) := by decide +kernel
theorem dX11_init_249 : decode cX11_init 249 = .ok (.bipush 10, 2) := by decide +kernel
theorem dX11_init_251 : decode cX11_init 251 = .ok (.putfield 102, 3) := by decide +kernel
theorem dX11_init_254 : decode cX11_init 254 = .ok (.aload_n 0, 1) := by decide +kernel
theorem dX11_init_255 : decode cX11_init 255 = .ok (.iconst 1, 1) := by decide +kernel
theorem dX11_init_256 : decode cX11_init 256 = .ok (.putfield 105, 3) := by decide +kernel
theorem dX11_init_259 : decode cX11_init 259 = .ok (.aload_n 0, 1) := by decide +kernel
theorem dX11_init_260 : decode cX11_init 260 = .ok (.bipush 60, 2) := by decide +kernel
theorem dX11_init_262 : decode cX11_init 262 = .ok (.putfield 108, 3) := by decide +kernel
theorem dX11_init_265 : decode cX11_init 265 = .ok (.aload_n 0, 1) := by decide +kernel
theorem dX11_init_266 : decode cX11_init 266 = .ok (.bipush 10, 2) := by decide +kernel
theorem dX11_init_268 : decode cX11_init 268 = .ok (.newarray .int, 2) := by decide +kernel
theorem dX11_init_270 : decode cX11_init 270 = .ok (.putfield 111, 3) := by decide +kernel
theorem dX11_init_273 : decode cX11_init 273 = .ok (.aload_n 0, 1) := by decide +kernel
theorem dX11_init_274 : decode cX11_init 274 = .ok (.bipush 10, 2) := by decide +kernel
theorem dX11_init_276 : decode cX11_init 276 = .ok (.newarray .int, 2) := by decide +kernel
theorem dX11_init_278 : decode cX11_init 278 = .ok (.putfield 114, 3) := by decide +kernel
theorem dX11_init_281 : decode cX11_init 281 = .ok (.aload_n 0, 1) := by decide +kernel
theorem dX11_init_282 : decode cX11_init 282 = .ok (.sipush 1024, 3) := by decide +kernel
theorem dX11_init_285 : decode cX11_init 285 = .ok (.newarray .int, 2) := by decide +kernel
theorem dX11_init_287 : decode cX11_init 287 = .ok (.putfield 117, 3) := by decide +kernel
theorem dX11_init_290 : decode cX11_init 290 = .ok (.aload_n 0, 1) := by decide +kernel
theorem dX11_init_291 : decode cX11_init 291 = .ok (.bipush 10, 2) := by decide +kernel
theorem dX11_init_293 : decode cX11_init 293 = .ok (.newarray .int, 2) := by decide +kernel
theorem dX11_init_295 : decode cX11_init 295 = .ok (.putfield 120, 3) := by decide +kernel
theorem dX11_init_298 : decode cX11_init 298 = .ok (.aload_n 0, 1) := by decide +kernel
theorem dX11_init_299 : decode cX11_init 299 = .ok (.bipush 10, 2) := by decide +kernel
theorem dX11_init_301 : decode cX11_init 301 = .ok (.newarray .int, 2) := by decide +kernel
theorem dX11_init_303 : decode cX11_init 303 = .ok (.putfield 123, 3) := by decide +kernel
theorem dX11_init_306 : decode cX11_init 306 = .ok (.iconst 0, 1) := by decide +kernel
theorem dX11_init_307 : decode cX11_init 307 = .ok (.istore_n 1, 1) := by decide +kernel
theorem dX11_init_308 : decode cX11_init 308 = .ok (.iload_n 1, 1) := by decide +kernel
theorem dX11_init_309 : decode cX11_init 309 = .ok (.bipush 6, 2) := by decide +kernel
theorem dX11_init_311 : decode cX11_init 311 = .ok (.if_icmp .ge 31, 3) := by decide +kernel
theorem dX11_init_314 : decode cX11_init 314 = .ok (.aload_n 0, 1) := by decide +kernel
theorem dX11_init_315 : decode cX11_init 315 = .ok (.getfield 84, 3) := by decide +kernel
theorem dX11_init_318 : decode cX11_init 318 = .ok (.iload_n 1, 1) := by decide +kernel
theorem dX11_init_319 : decode cX11_init 319 = .ok (.bipush 10, 2) := by decide +kernel
theorem dX11_init_321 : decode cX11_init 321 = .ok (.iastore, 1) := by decide +kernel
theorem dX11_init_322 : decode cX11_init 322 = .ok (.aload_n 0, 1) := by decide +kernel
theorem dX11_init_323 : decode cX11_init 323 = .ok (.getfield 90, 3) := by decide +kernel
theorem dX11_init_326 : decode cX11_init 326 = .ok (.iload_n 1, 1) := by decide +kernel
theorem dX11_init_327 : decode cX11_init 327 = .ok (.iconst 1, 1) := by decide +kernel
theorem dX11_init_328 : decode cX11_init 328 = .ok (.iastore, 1) := by decide +kernel
theorem dX11_init_329 : decode cX11_init 329 = .ok (.aload_n 0, 1) := by decide +kernel
theorem dX11_init_330 : decode cX11_init 330 = .ok (.getfield 96, 3) := by decide +kernel
theorem dX11_init_333 : decode cX11_init 333 = .ok (.iload_n 1, 1) := by decide +kernel
theorem dX11_init_334 : decode cX11_init 334 = .ok (.iconst 1, 1) := by decide +kernel
theorem dX11_init_335 : decode cX11_init 335 = .ok (.bastore, 1) := by decide +kernel
theorem dX11_init_336 : decode cX11_init 336 = .ok (.iinc 1 1, 3) := by decide +kernel
theorem dX11_init_339 : decode cX11_init 339 = .ok (.goto (-31), 3) := by decide +kernel
theorem dX11_init_342 : decode cX11_init 342 = .ok (.return_, 1) := by decide +kernel
theorem dX11_net_0 : decode cX11_net 0 = .ok (.iload_n 1, 1) := by decide +kernel
theorem dX11_net_1 : decode cX11_net 1 = .ok (.ifCond .lt 19, 3) := by decide +kernel
theorem dX11_net_4 : decode cX11_net 4 = .ok (.iload_n 1, 1) := by decide +kernel
theorem dX11_net_5 : decode cX11_net 5 = .ok (.bipush 24, 2) := by decide +kernel
theorem dX11_net_7 : decode cX11_net 7 = .ok (.if_icmp .ge 13, 3) := by decide +kernel
theorem dX11_net_10 : decode cX11_net 10 = .ok (.iload_n 2, 1) := by decide +kernel
theorem dX11_net_11 : decode cX11_net 11 = .ok (.ifCond .lt 9, 3) := by decide +kernel
theorem dX11_net_14 : decode cX11_net 14 = .ok (.iload_n 2, 1) := by decide +kernel
theorem dX11_net_15 : decode cX11_net 15 = .ok (.ldc 126, 2) := by decide +kernel
theorem dX11_net_17 : decode cX11_net 17 = .ok (.if_icmp .lt 5, 3) := by decide +kernel
theorem dX11_net_20 : decode cX11_net 20 = .ok (.iconst 0, 1) := by decide +kernel
theorem dX11_net_21 : decode cX11_net 21 = .ok (.ireturn, 1) := by decide +kernel
theorem dX11_net_22 : decode cX11_net 22 = .ok (.aload_n 0, 1) := by decide +kernel
theorem dX11_net_23 : decode cX11_net 23 = .ok (.getfield 7, 3) := by decide +kernel
theorem dX11_net_26 : decode cX11_net 26 = .ok (.iload_n 1, 1) := by decide +kernel
theorem dX11_net_27 : decode cX11_net 27 = .ok (.iload_n 2, 1) := by decide +kernel
theorem dX11_net_28 : decode cX11_net 28 = .ok (.iastore, 1) := by decide +kernel
theorem dX11_net_29 : decode cX11_net 29 = .ok (.iconst 1, 1) := by decide +kernel
theorem dX11_net_30 : decode cX11_net 30 = .ok (.ireturn, 1) := by decide +kernel
theorem dX11_isIn_0 : decode cX11_isIn 0 = .ok (.iload_n 1, 1) := by decide +kernel
theorem dX11_isIn_1 : decode cX11_isIn 1 = .ok (.ifCond .lt 37, 3) := by decide +kernel
theorem dX11_isIn_4 : decode cX11_isIn 4 = .ok (.iload_n 1, 1) := by decide +kernel
theorem dX11_isIn_5 : decode cX11_isIn 5 = .ok (.bipush 24, 2) := by decide +kernel
theorem dX11_isIn_7 : decode cX11_isIn 7 = .ok (.if_icmp .ge 31, 3) := by decide +kernel
theorem dX11_isIn_10 : decode cX11_isIn 10 = .ok (.iload_n 2, 1) := by decide +kernel
theorem dX11_isIn_11 : decode cX11_isIn 11 = .ok (.ifCond .lt 27, 3) := by decide +kernel
theorem dX11_isIn_14 : decode cX11_isIn 14 = .ok (.iload_n 2, 1) := by decide +kernel
theorem dX11_isIn_15 : decode cX11_isIn 15 = .ok (.bipush 24, 2) := by decide +kernel
theorem dX11_isIn_17 : decode cX11_isIn 17 = .ok (.if_icmp .ge 21, 3) := by decide +kernel
theorem dX11_isIn_20 : decode cX11_isIn 20 = .ok (.aload_n 0, 1) := by decide +kernel
theorem dX11_isIn_21 : decode cX11_isIn 21 = .ok (.getfield 7, 3) := by decide +kernel
theorem dX11_isIn_24 : decode cX11_isIn 24 = .ok (.iload_n 1, 1) := by decide +kernel
theorem dX11_isIn_25 : decode cX11_isIn 25 = .ok (.iaload, 1) := by decide +kernel
theorem dX11_isIn_26 : decode cX11_isIn 26 = .ok (.iload_n 2, 1) := by decide +kernel
theorem dX11_isIn_27 : decode cX11_isIn 27 = .ok (.ishr, 1) := by decide +kernel
theorem dX11_isIn_28 : decode cX11_isIn 28 = .ok (.iconst 1, 1) := by decide +kernel
theorem dX11_isIn_29 : decode cX11_isIn 29 = .ok (.iand, 1) := by decide +kernel
theorem dX11_isIn_30 : decode cX11_isIn 30 = .ok (.iconst 1, 1) := by decide +kernel
theorem dX11_isIn_31 : decode cX11_isIn 31 = .ok (.if_icmp .ne 7, 3) := by decide +kernel
theorem dX11_isIn_34 : decode cX11_isIn 34 = .ok (.iconst 1, 1) := by decide +kernel
theorem dX11_isIn_35 : decode cX11_isIn 35 = .ok (.goto 4, 3) := by decide +kernel
theorem dX11_isIn_38 : decode cX11_isIn 38 = .ok (.iconst 0, 1) := by decide +kernel
theorem dX11_isIn_39 : decode cX11_isIn 39 = .ok (.ireturn, 1) := by decide +kernel
theorem dX11_fits_0 : decode cX11_fits 0 = .ok (.iconst 1, 1) := by decide +kernel
theorem dX11_fits_1 : decode cX11_fits 1 = .ok (.istore 4, 2) := by decide +kernel
theorem dX11_fits_3 : decode cX11_fits 3 = .ok (.iload_n 3, 1) := by decide +kernel
theorem dX11_fits_4 : decode cX11_fits 4 = .ok (.ineg, 1) := by decide +kernel
theorem dX11_fits_5 : decode cX11_fits 5 = .ok (.istore 5, 2) := by decide +kernel
theorem dX11_fits_7 : decode cX11_fits 7 = .ok (.iload 5, 2) := by decide +kernel
theorem dX11_fits_9 : decode cX11_fits 9 = .ok (.iload_n 3, 1) := by decide +kernel
theorem dX11_fits_10 : decode cX11_fits 10 = .ok (.if_icmp .gt 74, 3) := by decide +kernel
theorem dX11_fits_13 : decode cX11_fits 13 = .ok (.iload 4, 2) := by decide +kernel
theorem dX11_fits_15 : decode cX11_fits 15 = .ok (.ifCond .eq 69, 3) := by decide +kernel
theorem dX11_fits_18 : decode cX11_fits 18 = .ok (.iload_n 3, 1) := by decide +kernel
theorem dX11_fits_19 : decode cX11_fits 19 = .ok (.ineg, 1) := by decide +kernel
theorem dX11_fits_20 : decode cX11_fits 20 = .ok (.istore 6, 2) := by decide +kernel
theorem dX11_fits_22 : decode cX11_fits 22 = .ok (.iload 6, 2) := by decide +kernel
theorem dX11_fits_24 : decode cX11_fits 24 = .ok (.iload_n 3, 1) := by decide +kernel
theorem dX11_fits_25 : decode cX11_fits 25 = .ok (.if_icmp .gt 53, 3) := by decide +kernel
theorem dX11_fits_28 : decode cX11_fits 28 = .ok (.iload 4, 2) := by decide +kernel
theorem dX11_fits_30 : decode cX11_fits 30 = .ok (.ifCond .eq 48, 3) := by decide +kernel
theorem dX11_fits_33 : decode cX11_fits 33 = .ok (.iload 5, 2) := by decide +kernel
theorem dX11_fits_35 : decode cX11_fits 35 = .ok (.iload 5, 2) := by decide +kernel
theorem dX11_fits_37 : decode cX11_fits 37 = .ok (.imul, 1) := by decide +kernel
theorem dX11_fits_38 : decode cX11_fits 38 = .ok (.iload 6, 2) := by decide +kernel
theorem dX11_fits_40 : decode cX11_fits 40 = .ok (.iload 6, 2) := by decide +kernel
theorem dX11_fits_42 : decode cX11_fits 42 = .ok (.imul, 1) := by decide +kernel
theorem dX11_fits_43 : decode cX11_fits 43 = .ok (.iadd, 1) := by decide +kernel
theorem dX11_fits_44 : decode cX11_fits 44 = .ok (.iload_n 3, 1) := by decide +kernel
theorem dX11_fits_45 : decode cX11_fits 45 = .ok (.iload_n 3, 1) := by decide +kernel
theorem dX11_fits_46 : decode cX11_fits 46 = .ok (.imul, 1) := by decide +kernel
theorem dX11_fits_47 : decode cX11_fits 47 = .ok (.if_icmp .gt 18, 3) := by decide +kernel
theorem dX11_fits_50 : decode cX11_fits 50 = .ok (.aload_n 0, 1) := by decide +kernel
theorem dX11_fits_51 : decode cX11_fits 51 = .ok (.iload_n 1, 1) := by decide +kernel
theorem dX11_fits_52 : decode cX11_fits 52 = .ok (.iload 5, 2) := by decide +kernel
theorem dX11_fits_54 : decode cX11_fits 54 = .ok (.iadd, 1) := by decide +kernel
theorem dX11_fits_55 : decode cX11_fits 55 = .ok (.iload_n 2, 1) := by decide +kernel
theorem dX11_fits_56 : decode cX11_fits 56 = .ok (.iload 6, 2) := by decide +kernel
theorem dX11_fits_58 : decode cX11_fits 58 = .ok (.iadd, 1) := by decide +kernel
theorem dX11_fits_59 : decode cX11_fits 59 = .ok (.invokevirtual 127, 3) := by decide +kernel
theorem dX11_fits_62 : decode cX11_fits 62 = .ok (.ifCond .eq 7, 3) := by decide +kernel
theorem dX11_fits_65 : decode cX11_fits 65 = .ok (.iconst 1, 1) := by decide +kernel
theorem dX11_fits_66 : decode cX11_fits 66 = .ok (.goto 4, 3) := by decide +kernel
theorem dX11_fits_69 : decode cX11_fits 69 = .ok (.iconst 0, 1) := by decide +kernel
theorem dX11_fits_70 : decode cX11_fits 70 = .ok (.istore 4, 2) := by decide +kernel
theorem dX11_fits_72 : decode cX11_fits 72 = .ok (.iinc 6 1, 3) := by decide +kernel
theorem dX11_fits_75 : decode cX11_fits 75 = .ok (.goto (-53), 3) := by decide +kernel
theorem dX11_fits_78 : decode cX11_fits 78 = .ok (.iinc 5 1, 3) := by decide +kernel
theorem dX11_fits_81 : decode cX11_fits 81 = .ok (.goto (-74), 3) := by decide +kernel
theorem dX11_fits_84 : decode cX11_fits 84 = .ok (.iload 4, 2) := by decide +kernel
theorem dX11_fits_86 : decode cX11_fits 86 = .ok (.ireturn, 1) := by decide +kernel
theorem dX11_seekCentre_0 : decode cX11_seekCentre 0 = .ok (.aload_n 0, 1) := by decide +kernel
theorem dX11_seekCentre_1 : decode cX11_seekCentre 1 = .ok (.iconst (-1), 1) := by decide +kernel
theorem dX11_seekCentre_2 : decode cX11_seekCentre 2 = .ok (.putfield 131, 3) := by decide +kernel
theorem dX11_seekCentre_5 : decode cX11_seekCentre 5 = .ok (.iconst 0, 1) := by decide +kernel
theorem dX11_seekCentre_6 : decode cX11_seekCentre 6 = .ok (.istore_n 1, 1) := by decide +kernel
theorem dX11_seekCentre_7 : decode cX11_seekCentre 7 = .ok (.iload_n 1, 1) := by decide +kernel
theorem dX11_seekCentre_8 : decode cX11_seekCentre 8 = .ok (.bipush 24, 2) := by decide +kernel
theorem dX11_seekCentre_10 : decode cX11_seekCentre 10 = .ok (.if_icmp .ge 70, 3) := by decide +kernel
theorem dX11_seekCentre_13 : decode cX11_seekCentre 13 = .ok (.iconst 0, 1) := by decide +kernel
theorem dX11_seekCentre_14 : decode cX11_seekCentre 14 = .ok (.istore_n 2, 1) := by decide +kernel
theorem dX11_seekCentre_15 : decode cX11_seekCentre 15 = .ok (.iload_n 2, 1) := by decide +kernel
theorem dX11_seekCentre_16 : decode cX11_seekCentre 16 = .ok (.bipush 24, 2) := by decide +kernel
theorem dX11_seekCentre_18 : decode cX11_seekCentre 18 = .ok (.if_icmp .ge 56, 3) := by decide +kernel
theorem dX11_seekCentre_21 : decode cX11_seekCentre 21 = .ok (.aload_n 0, 1) := by decide +kernel
theorem dX11_seekCentre_22 : decode cX11_seekCentre 22 = .ok (.getfield 131, 3) := by decide +kernel
theorem dX11_seekCentre_25 : decode cX11_seekCentre 25 = .ok (.bipush 11, 2) := by decide +kernel
theorem dX11_seekCentre_27 : decode cX11_seekCentre 27 = .ok (.if_icmp .ge 41, 3) := by decide +kernel
theorem dX11_seekCentre_30 : decode cX11_seekCentre 30 = .ok (.aload_n 0, 1) := by decide +kernel
theorem dX11_seekCentre_31 : decode cX11_seekCentre 31 = .ok (.iload_n 1, 1) := by decide +kernel
theorem dX11_seekCentre_32 : decode cX11_seekCentre 32 = .ok (.iload_n 2, 1) := by decide +kernel
theorem dX11_seekCentre_33 : decode cX11_seekCentre 33 = .ok (.aload_n 0, 1) := by decide +kernel
theorem dX11_seekCentre_34 : decode cX11_seekCentre 34 = .ok (.getfield 131, 3) := by decide +kernel
theorem dX11_seekCentre_37 : decode cX11_seekCentre 37 = .ok (.iconst 1, 1) := by decide +kernel
theorem dX11_seekCentre_38 : decode cX11_seekCentre 38 = .ok (.iadd, 1) := by decide +kernel
theorem dX11_seekCentre_39 : decode cX11_seekCentre 39 = .ok (.invokevirtual 134, 3) := by decide +kernel
theorem dX11_seekCentre_42 : decode cX11_seekCentre 42 = .ok (.ifCond .eq 26, 3) := by decide +kernel
theorem dX11_seekCentre_45 : decode cX11_seekCentre 45 = .ok (.aload_n 0, 1) := by decide +kernel
theorem dX11_seekCentre_46 : decode cX11_seekCentre 46 = .ok (.dup, 1) := by decide +kernel
theorem dX11_seekCentre_47 : decode cX11_seekCentre 47 = .ok (.getfield 131, 3) := by decide +kernel
theorem dX11_seekCentre_50 : decode cX11_seekCentre 50 = .ok (.iconst 1, 1) := by decide +kernel
theorem dX11_seekCentre_51 : decode cX11_seekCentre 51 = .ok (.iadd, 1) := by decide +kernel
theorem dX11_seekCentre_52 : decode cX11_seekCentre 52 = .ok (.putfield 131, 3) := by decide +kernel
theorem dX11_seekCentre_55 : decode cX11_seekCentre 55 = .ok (.aload_n 0, 1) := by decide +kernel
theorem dX11_seekCentre_56 : decode cX11_seekCentre 56 = .ok (.iload_n 1, 1) := by decide +kernel
theorem dX11_seekCentre_57 : decode cX11_seekCentre 57 = .ok (.putfield 138, 3) := by decide +kernel
theorem dX11_seekCentre_60 : decode cX11_seekCentre 60 = .ok (.aload_n 0, 1) := by decide +kernel
theorem dX11_seekCentre_61 : decode cX11_seekCentre 61 = .ok (.iload_n 2, 1) := by decide +kernel
theorem dX11_seekCentre_62 : decode cX11_seekCentre 62 = .ok (.putfield 141, 3) := by decide +kernel
theorem dX11_seekCentre_65 : decode cX11_seekCentre 65 = .ok (.goto (-44), 3) := by decide +kernel
theorem dX11_seekCentre_68 : decode cX11_seekCentre 68 = .ok (.iinc 2 1, 3) := by decide +kernel
theorem dX11_seekCentre_71 : decode cX11_seekCentre 71 = .ok (.goto (-56), 3) := by decide +kernel
theorem dX11_seekCentre_74 : decode cX11_seekCentre 74 = .ok (.iinc 1 1, 3) := by decide +kernel
theorem dX11_seekCentre_77 : decode cX11_seekCentre 77 = .ok (.goto (-70), 3) := by decide +kernel
theorem dX11_seekCentre_80 : decode cX11_seekCentre 80 = .ok (.return_, 1) := by decide +kernel
theorem dX11_centre_0 : decode cX11_centre 0 = .ok (.aload_n 0, 1) := by decide +kernel
theorem dX11_centre_1 : decode cX11_centre 1 = .ok (.invokevirtual 144, 3) := by decide +kernel
theorem dX11_centre_4 : decode cX11_centre 4 = .ok (.aload_n 0, 1) := by decide +kernel
theorem dX11_centre_5 : decode cX11_centre 5 = .ok (.getfield 131, 3) := by decide +kernel
theorem dX11_centre_8 : decode cX11_centre 8 = .ok (.ifCond .ge 7, 3) := by decide +kernel
theorem dX11_centre_11 : decode cX11_centre 11 = .ok (.iconst (-1), 1) := by decide +kernel
theorem dX11_centre_12 : decode cX11_centre 12 = .ok (.goto 39, 3) := by decide +kernel
theorem dX11_centre_15 : decode cX11_centre 15 = .ok (.iload_n 1, 1) := by decide +kernel
theorem dX11_centre_16 : decode cX11_centre 16 = .ok (.ifCond .ne 10, 3) := by decide +kernel
theorem dX11_centre_19 : decode cX11_centre 19 = .ok (.aload_n 0, 1) := by decide +kernel
theorem dX11_centre_20 : decode cX11_centre 20 = .ok (.getfield 138, 3) := by decide +kernel
theorem dX11_centre_23 : decode cX11_centre 23 = .ok (.goto 28, 3) := by decide +kernel
theorem dX11_centre_26 : decode cX11_centre 26 = .ok (.iload_n 1, 1) := by decide +kernel
theorem dX11_centre_27 : decode cX11_centre 27 = .ok (.iconst 1, 1) := by decide +kernel
theorem dX11_centre_28 : decode cX11_centre 28 = .ok (.if_icmp .ne 10, 3) := by decide +kernel
theorem dX11_centre_31 : decode cX11_centre 31 = .ok (.aload_n 0, 1) := by decide +kernel
theorem dX11_centre_32 : decode cX11_centre 32 = .ok (.getfield 141, 3) := by decide +kernel
theorem dX11_centre_35 : decode cX11_centre 35 = .ok (.goto 16, 3) := by decide +kernel
theorem dX11_centre_38 : decode cX11_centre 38 = .ok (.iload_n 1, 1) := by decide +kernel
theorem dX11_centre_39 : decode cX11_centre 39 = .ok (.iconst 2, 1) := by decide +kernel
theorem dX11_centre_40 : decode cX11_centre 40 = .ok (.if_icmp .ne 10, 3) := by decide +kernel
theorem dX11_centre_43 : decode cX11_centre 43 = .ok (.aload_n 0, 1) := by decide +kernel
theorem dX11_centre_44 : decode cX11_centre 44 = .ok (.getfield 131, 3) := by decide +kernel
theorem dX11_centre_47 : decode cX11_centre 47 = .ok (.goto 4, 3) := by decide +kernel
theorem dX11_centre_50 : decode cX11_centre 50 = .ok (.iconst (-1), 1) := by decide +kernel
theorem dX11_centre_51 : decode cX11_centre 51 = .ok (.ireturn, 1) := by decide +kernel
theorem dX11_full_0 : decode cX11_full 0 = .ok (.aload_n 0, 1) := by decide +kernel
theorem dX11_full_1 : decode cX11_full 1 = .ok (.invokevirtual 144, 3) := by decide +kernel
theorem dX11_full_4 : decode cX11_full 4 = .ok (.iload_n 1, 1) := by decide +kernel
theorem dX11_full_5 : decode cX11_full 5 = .ok (.iconst 1, 1) := by decide +kernel
theorem dX11_full_6 : decode cX11_full 6 = .ok (.if_icmp .lt 28, 3) := by decide +kernel
theorem dX11_full_9 : decode cX11_full 9 = .ok (.iload_n 1, 1) := by decide +kernel
theorem dX11_full_10 : decode cX11_full 10 = .ok (.sipush 200, 3) := by decide +kernel
theorem dX11_full_13 : decode cX11_full 13 = .ok (.if_icmp .gt 21, 3) := by decide +kernel
theorem dX11_full_16 : decode cX11_full 16 = .ok (.iload_n 2, 1) := by decide +kernel
theorem dX11_full_17 : decode cX11_full 17 = .ok (.iconst 1, 1) := by decide +kernel
theorem dX11_full_18 : decode cX11_full 18 = .ok (.if_icmp .lt 16, 3) := by decide +kernel
theorem dX11_full_21 : decode cX11_full 21 = .ok (.iload_n 2, 1) := by decide +kernel
theorem dX11_full_22 : decode cX11_full 22 = .ok (.bipush 50, 2) := by decide +kernel
theorem dX11_full_24 : decode cX11_full 24 = .ok (.if_icmp .gt 10, 3) := by decide +kernel
theorem dX11_full_27 : decode cX11_full 27 = .ok (.aload_n 0, 1) := by decide +kernel
theorem dX11_full_28 : decode cX11_full 28 = .ok (.getfield 131, 3) := by decide +kernel
theorem dX11_full_31 : decode cX11_full 31 = .ok (.ifCond .ge 5, 3) := by decide +kernel
theorem dX11_full_34 : decode cX11_full 34 = .ok (.iconst (-1), 1) := by decide +kernel
theorem dX11_full_35 : decode cX11_full 35 = .ok (.ireturn, 1) := by decide +kernel
theorem dX11_full_36 : decode cX11_full 36 = .ok (.bipush 10, 2) := by decide +kernel
theorem dX11_full_38 : decode cX11_full 38 = .ok (.aload_n 0, 1) := by decide +kernel
theorem dX11_full_39 : decode cX11_full 39 = .ok (.getfield 131, 3) := by decide +kernel
theorem dX11_full_42 : decode cX11_full 42 = .ok (.imul, 1) := by decide +kernel
theorem dX11_full_43 : decode cX11_full 43 = .ok (.iconst 5, 1) := by decide +kernel
theorem dX11_full_44 : decode cX11_full 44 = .ok (.iadd, 1) := by decide +kernel
theorem dX11_full_45 : decode cX11_full 45 = .ok (.istore_n 3, 1) := by decide +kernel
theorem dX11_full_46 : decode cX11_full 46 = .ok (.iload_n 1, 1) := by decide +kernel
theorem dX11_full_47 : decode cX11_full 47 = .ok (.iload_n 3, 1) := by decide +kernel
theorem dX11_full_48 : decode cX11_full 48 = .ok (.if_icmp .lt 7, 3) := by decide +kernel
theorem dX11_full_51 : decode cX11_full 51 = .ok (.iconst 0, 1) := by decide +kernel
theorem dX11_full_52 : decode cX11_full 52 = .ok (.goto 18, 3) := by decide +kernel
theorem dX11_full_55 : decode cX11_full 55 = .ok (.iload_n 3, 1) := by decide +kernel
theorem dX11_full_56 : decode cX11_full 56 = .ok (.iload_n 3, 1) := by decide +kernel
theorem dX11_full_57 : decode cX11_full 57 = .ok (.imul, 1) := by decide +kernel
theorem dX11_full_58 : decode cX11_full 58 = .ok (.iload_n 1, 1) := by decide +kernel
theorem dX11_full_59 : decode cX11_full 59 = .ok (.iload_n 1, 1) := by decide +kernel
theorem dX11_full_60 : decode cX11_full 60 = .ok (.imul, 1) := by decide +kernel
theorem dX11_full_61 : decode cX11_full 61 = .ok (.isub, 1) := by decide +kernel
theorem dX11_full_62 : decode cX11_full 62 = .ok (.bipush 22, 2) := by decide +kernel
theorem dX11_full_64 : decode cX11_full 64 = .ok (.imul, 1) := by decide +kernel
theorem dX11_full_65 : decode cX11_full 65 = .ok (.bipush 7, 2) := by decide +kernel
theorem dX11_full_67 : decode cX11_full 67 = .ok (.iload_n 2, 1) := by decide +kernel
theorem dX11_full_68 : decode cX11_full 68 = .ok (.imul, 1) := by decide +kernel
theorem dX11_full_69 : decode cX11_full 69 = .ok (.idiv, 1) := by decide +kernel
theorem dX11_full_70 : decode cX11_full 70 = .ok (.ireturn, 1) := by decide +kernel
theorem dX11_feed_0 : decode cX11_feed 0 = .ok (.aload_n 0, 1) := by decide +kernel
theorem dX11_feed_1 : decode cX11_feed 1 = .ok (.getfield 147, 3) := by decide +kernel
theorem dX11_feed_4 : decode cX11_feed 4 = .ok (.bipush 20, 2) := by decide +kernel
theorem dX11_feed_6 : decode cX11_feed 6 = .ok (.iadd, 1) := by decide +kernel
theorem dX11_feed_7 : decode cX11_feed 7 = .ok (.sipush 600, 3) := by decide +kernel
theorem dX11_feed_10 : decode cX11_feed 10 = .ok (.if_icmp .le 5, 3) := by decide +kernel
theorem dX11_feed_13 : decode cX11_feed 13 = .ok (.iconst (-1), 1) := by decide +kernel
theorem dX11_feed_14 : decode cX11_feed 14 = .ok (.ireturn, 1) := by decide +kernel
theorem dX11_feed_15 : decode cX11_feed 15 = .ok (.aload_n 0, 1) := by decide +kernel
theorem dX11_feed_16 : decode cX11_feed 16 = .ok (.iload_n 1, 1) := by decide +kernel
theorem dX11_feed_17 : decode cX11_feed 17 = .ok (.invokevirtual 150, 3) := by decide +kernel
theorem dX11_feed_20 : decode cX11_feed 20 = .ok (.aload_n 0, 1) := by decide +kernel
theorem dX11_feed_21 : decode cX11_feed 21 = .ok (.iload_n 2, 1) := by decide +kernel
theorem dX11_feed_22 : decode cX11_feed 22 = .ok (.invokevirtual 150, 3) := by decide +kernel
theorem dX11_feed_25 : decode cX11_feed 25 = .ok (.aload_n 0, 1) := by decide +kernel
theorem dX11_feed_26 : decode cX11_feed 26 = .ok (.iload_n 3, 1) := by decide +kernel
theorem dX11_feed_27 : decode cX11_feed 27 = .ok (.invokevirtual 150, 3) := by decide +kernel
theorem dX11_feed_30 : decode cX11_feed 30 = .ok (.aload_n 0, 1) := by decide +kernel
theorem dX11_feed_31 : decode cX11_feed 31 = .ok (.iload 4, 2) := by decide +kernel
theorem dX11_feed_33 : decode cX11_feed 33 = .ok (.invokevirtual 150, 3) := by decide +kernel
theorem dX11_feed_36 : decode cX11_feed 36 = .ok (.aload_n 0, 1) := by decide +kernel
theorem dX11_feed_37 : decode cX11_feed 37 = .ok (.iload 5, 2) := by decide +kernel
theorem dX11_feed_39 : decode cX11_feed 39 = .ok (.invokevirtual 150, 3) := by decide +kernel
theorem dX11_feed_42 : decode cX11_feed 42 = .ok (.aload_n 0, 1) := by decide +kernel
theorem dX11_feed_43 : decode cX11_feed 43 = .ok (.getfield 147, 3) := by decide +kernel
theorem dX11_feed_46 : decode cX11_feed 46 = .ok (.ireturn, 1) := by decide +kernel
theorem dX11_four_0 : decode cX11_four 0 = .ok (.bipush 24, 2) := by decide +kernel
theorem dX11_four_2 : decode cX11_four 2 = .ok (.istore_n 2, 1) := by decide +kernel
theorem dX11_four_3 : decode cX11_four 3 = .ok (.iload_n 2, 1) := by decide +kernel
theorem dX11_four_4 : decode cX11_four 4 = .ok (.ifCond .lt 35, 3) := by decide +kernel
theorem dX11_four_7 : decode cX11_four 7 = .ok (.aload_n 0, 1) := by decide +kernel
theorem dX11_four_8 : decode cX11_four 8 = .ok (.getfield 13, 3) := by decide +kernel
theorem dX11_four_11 : decode cX11_four 11 = .ok (.aload_n 0, 1) := by decide +kernel
theorem dX11_four_12 : decode cX11_four 12 = .ok (.getfield 147, 3) := by decide +kernel
theorem dX11_four_15 : decode cX11_four 15 = .ok (.iload_n 1, 1) := by decide +kernel
theorem dX11_four_16 : decode cX11_four 16 = .ok (.iload_n 2, 1) := by decide +kernel
theorem dX11_four_17 : decode cX11_four 17 = .ok (.ishr, 1) := by decide +kernel
theorem dX11_four_18 : decode cX11_four 18 = .ok (.sipush 255, 3) := by decide +kernel
theorem dX11_four_21 : decode cX11_four 21 = .ok (.iand, 1) := by decide +kernel
theorem dX11_four_22 : decode cX11_four 22 = .ok (.iastore, 1) := by decide +kernel
theorem dX11_four_23 : decode cX11_four 23 = .ok (.aload_n 0, 1) := by decide +kernel
theorem dX11_four_24 : decode cX11_four 24 = .ok (.dup, 1) := by decide +kernel
theorem dX11_four_25 : decode cX11_four 25 = .ok (.getfield 147, 3) := by decide +kernel
theorem dX11_four_28 : decode cX11_four 28 = .ok (.iconst 1, 1) := by decide +kernel
theorem dX11_four_29 : decode cX11_four 29 = .ok (.iadd, 1) := by decide +kernel
theorem dX11_four_30 : decode cX11_four 30 = .ok (.putfield 147, 3) := by decide +kernel
theorem dX11_four_33 : decode cX11_four 33 = .ok (.iinc 2 (-8), 3) := by decide +kernel
theorem dX11_four_36 : decode cX11_four 36 = .ok (.goto (-33), 3) := by decide +kernel
theorem dX11_four_39 : decode cX11_four 39 = .ok (.return_, 1) := by decide +kernel
theorem dX11_end_0 : decode cX11_end 0 = .ok (.iload_n 1, 1) := by decide +kernel
theorem dX11_end_1 : decode cX11_end 1 = .ok (.ifCond .lt 11, 3) := by decide +kernel
theorem dX11_end_4 : decode cX11_end 4 = .ok (.iload_n 1, 1) := by decide +kernel
theorem dX11_end_5 : decode cX11_end 5 = .ok (.aload_n 0, 1) := by decide +kernel
theorem dX11_end_6 : decode cX11_end 6 = .ok (.getfield 147, 3) := by decide +kernel
theorem dX11_end_9 : decode cX11_end 9 = .ok (.if_icmp .le 5, 3) := by decide +kernel
theorem dX11_end_12 : decode cX11_end 12 = .ok (.iconst (-1), 1) := by decide +kernel
theorem dX11_end_13 : decode cX11_end 13 = .ok (.ireturn, 1) := by decide +kernel
theorem dX11_end_14 : decode cX11_end 14 = .ok (.aload_n 0, 1) := by decide +kernel
theorem dX11_end_15 : decode cX11_end 15 = .ok (.iload_n 1, 1) := by decide +kernel
theorem dX11_end_16 : decode cX11_end 16 = .ok (.putfield 147, 3) := by decide +kernel
theorem dX11_end_19 : decode cX11_end 19 = .ok (.iload_n 1, 1) := by decide +kernel
theorem dX11_end_20 : decode cX11_end 20 = .ok (.ireturn, 1) := by decide +kernel
theorem dX11_here_0 : decode cX11_here 0 = .ok (.aload_n 0, 1) := by decide +kernel
theorem dX11_here_1 : decode cX11_here 1 = .ok (.getfield 154, 3) := by decide +kernel
theorem dX11_here_4 : decode cX11_here 4 = .ok (.iload_n 1, 1) := by decide +kernel
theorem dX11_here_5 : decode cX11_here 5 = .ok (.iadd, 1) := by decide +kernel
theorem dX11_here_6 : decode cX11_here 6 = .ok (.aload_n 0, 1) := by decide +kernel
theorem dX11_here_7 : decode cX11_here 7 = .ok (.getfield 157, 3) := by decide +kernel
theorem dX11_here_10 : decode cX11_here 10 = .ok (.if_icmp .ge 17, 3) := by decide +kernel
theorem dX11_here_13 : decode cX11_here 13 = .ok (.aload_n 0, 1) := by decide +kernel
theorem dX11_here_14 : decode cX11_here 14 = .ok (.getfield 13, 3) := by decide +kernel
theorem dX11_here_17 : decode cX11_here 17 = .ok (.aload_n 0, 1) := by decide +kernel
theorem dX11_here_18 : decode cX11_here 18 = .ok (.getfield 154, 3) := by decide +kernel
theorem dX11_here_21 : decode cX11_here 21 = .ok (.iload_n 1, 1) := by decide +kernel
theorem dX11_here_22 : decode cX11_here 22 = .ok (.iadd, 1) := by decide +kernel
theorem dX11_here_23 : decode cX11_here 23 = .ok (.iaload, 1) := by decide +kernel
theorem dX11_here_24 : decode cX11_here 24 = .ok (.goto 4, 3) := by decide +kernel
theorem dX11_here_27 : decode cX11_here 27 = .ok (.iconst (-1), 1) := by decide +kernel
theorem dX11_here_28 : decode cX11_here 28 = .ok (.ireturn, 1) := by decide +kernel
theorem dX11_isLetter_0 : decode cX11_isLetter 0 = .ok (.iload_n 0, 1) := by decide +kernel
theorem dX11_isLetter_1 : decode cX11_isLetter 1 = .ok (.bipush 97, 2) := by decide +kernel
theorem dX11_isLetter_3 : decode cX11_isLetter 3 = .ok (.if_icmp .lt 13, 3) := by decide +kernel
theorem dX11_isLetter_6 : decode cX11_isLetter 6 = .ok (.iload_n 0, 1) := by decide +kernel
theorem dX11_isLetter_7 : decode cX11_isLetter 7 = .ok (.bipush 122, 2) := by decide +kernel
theorem dX11_isLetter_9 : decode cX11_isLetter 9 = .ok (.if_icmp .gt 7, 3) := by decide +kernel
theorem dX11_isLetter_12 : decode cX11_isLetter 12 = .ok (.iconst 1, 1) := by decide +kernel
theorem dX11_isLetter_13 : decode cX11_isLetter 13 = .ok (.goto 4, 3) := by decide +kernel
theorem dX11_isLetter_16 : decode cX11_isLetter 16 = .ok (.iconst 0, 1) := by decide +kernel
theorem dX11_isLetter_17 : decode cX11_isLetter 17 = .ok (.ireturn, 1) := by decide +kernel
theorem dX11_isDigit_0 : decode cX11_isDigit 0 = .ok (.iload_n 0, 1) := by decide +kernel
theorem dX11_isDigit_1 : decode cX11_isDigit 1 = .ok (.bipush 48, 2) := by decide +kernel
theorem dX11_isDigit_3 : decode cX11_isDigit 3 = .ok (.if_icmp .lt 13, 3) := by decide +kernel
theorem dX11_isDigit_6 : decode cX11_isDigit 6 = .ok (.iload_n 0, 1) := by decide +kernel
theorem dX11_isDigit_7 : decode cX11_isDigit 7 = .ok (.bipush 57, 2) := by decide +kernel
theorem dX11_isDigit_9 : decode cX11_isDigit 9 = .ok (.if_icmp .gt 7, 3) := by decide +kernel
theorem dX11_isDigit_12 : decode cX11_isDigit 12 = .ok (.iconst 1, 1) := by decide +kernel
theorem dX11_isDigit_13 : decode cX11_isDigit 13 = .ok (.goto 4, 3) := by decide +kernel
theorem dX11_isDigit_16 : decode cX11_isDigit 16 = .ok (.iconst 0, 1) := by decide +kernel
theorem dX11_isDigit_17 : decode cX11_isDigit 17 = .ok (.ireturn, 1) := by decide +kernel
theorem dX11_isSign_0 : decode cX11_isSign 0 = .ok (.iload_n 0, 1) := by decide +kernel
theorem dX11_isSign_1 : decode cX11_isSign 1 = .ok (.bipush 59, 2) := by decide +kernel
theorem dX11_isSign_3 : decode cX11_isSign 3 = .ok (.if_icmp .eq 45, 3) := by decide +kernel
theorem dX11_isSign_6 : decode cX11_isSign 6 = .ok (.iload_n 0, 1) := by decide +kernel
theorem dX11_isSign_7 : decode cX11_isSign 7 = .ok (.bipush 40, 2) := by decide +kernel
theorem dX11_isSign_9 : decode cX11_isSign 9 = .ok (.if_icmp .eq 39, 3) := by decide +kernel
theorem dX11_isSign_12 : decode cX11_isSign 12 = .ok (.iload_n 0, 1) := by decide +kernel
theorem dX11_isSign_13 : decode cX11_isSign 13 = .ok (.bipush 41, 2) := by decide +kernel
theorem dX11_isSign_15 : decode cX11_isSign 15 = .ok (.if_icmp .eq 33, 3) := by decide +kernel
theorem dX11_isSign_18 : decode cX11_isSign 18 = .ok (.iload_n 0, 1) := by decide +kernel
theorem dX11_isSign_19 : decode cX11_isSign 19 = .ok (.bipush 60, 2) := by decide +kernel
theorem dX11_isSign_21 : decode cX11_isSign 21 = .ok (.if_icmp .eq 27, 3) := by decide +kernel
theorem dX11_isSign_24 : decode cX11_isSign 24 = .ok (.iload_n 0, 1) := by decide +kernel
theorem dX11_isSign_25 : decode cX11_isSign 25 = .ok (.bipush 62, 2) := by decide +kernel
theorem dX11_isSign_27 : decode cX11_isSign 27 = .ok (.if_icmp .eq 21, 3) := by decide +kernel
theorem dX11_isSign_30 : decode cX11_isSign 30 = .ok (.iload_n 0, 1) := by decide +kernel
theorem dX11_isSign_31 : decode cX11_isSign 31 = .ok (.bipush 61, 2) := by decide +kernel
theorem dX11_isSign_33 : decode cX11_isSign 33 = .ok (.if_icmp .eq 15, 3) := by decide +kernel
theorem dX11_isSign_36 : decode cX11_isSign 36 = .ok (.iload_n 0, 1) := by decide +kernel
theorem dX11_isSign_37 : decode cX11_isSign 37 = .ok (.bipush 43, 2) := by decide +kernel
theorem dX11_isSign_39 : decode cX11_isSign 39 = .ok (.if_icmp .eq 9, 3) := by decide +kernel
theorem dX11_isSign_42 : decode cX11_isSign 42 = .ok (.iload_n 0, 1) := by decide +kernel
theorem dX11_isSign_43 : decode cX11_isSign 43 = .ok (.bipush 45, 2) := by decide +kernel
theorem dX11_isSign_45 : decode cX11_isSign 45 = .ok (.if_icmp .ne 7, 3) := by decide +kernel
theorem dX11_isSign_48 : decode cX11_isSign 48 = .ok (.iconst 1, 1) := by decide +kernel
theorem dX11_isSign_49 : decode cX11_isSign 49 = .ok (.goto 4, 3) := by decide +kernel
theorem dX11_isSign_52 : decode cX11_isSign 52 = .ok (.iconst 0, 1) := by decide +kernel
theorem dX11_isSign_53 : decode cX11_isSign 53 = .ok (.ireturn, 1) := by decide +kernel
theorem dX11_next_0 : decode cX11_next 0 = .ok (.aload_n 0, 1) := by decide +kernel
theorem dX11_next_1 : decode cX11_next 1 = .ok (.iconst 0, 1) := by decide +kernel
theorem dX11_next_2 : decode cX11_next 2 = .ok (.invokevirtual 160, 3) := by decide +kernel
theorem dX11_next_5 : decode cX11_next 5 = .ok (.bipush 32, 2) := by decide +kernel
theorem dX11_next_7 : decode cX11_next 7 = .ok (.if_icmp .eq 13, 3) := by decide +kernel
theorem dX11_next_10 : decode cX11_next 10 = .ok (.aload_n 0, 1) := by decide +kernel
theorem dX11_next_11 : decode cX11_next 11 = .ok (.iconst 0, 1) := by decide +kernel
theorem dX11_next_12 : decode cX11_next 12 = .ok (.invokevirtual 160, 3) := by decide +kernel
theorem dX11_next_15 : decode cX11_next 15 = .ok (.bipush 10, 2) := by decide +kernel
theorem dX11_next_17 : decode cX11_next 17 = .ok (.if_icmp .ne 16, 3) := by decide +kernel
theorem dX11_next_20 : decode cX11_next 20 = .ok (.aload_n 0, 1) := by decide +kernel
theorem dX11_next_21 : decode cX11_next 21 = .ok (.dup, 1) := by decide +kernel
theorem dX11_next_22 : decode cX11_next 22 = .ok (.getfield 154, 3) := by decide +kernel
theorem dX11_next_25 : decode cX11_next 25 = .ok (.iconst 1, 1) := by decide +kernel
theorem dX11_next_26 : decode cX11_next 26 = .ok (.iadd, 1) := by decide +kernel
theorem dX11_next_27 : decode cX11_next 27 = .ok (.putfield 154, 3) := by decide +kernel
theorem dX11_next_30 : decode cX11_next 30 = .ok (.goto (-30), 3) := by decide +kernel
theorem dX11_next_33 : decode cX11_next 33 = .ok (.aload_n 0, 1) := by decide +kernel
theorem dX11_next_34 : decode cX11_next 34 = .ok (.aload_n 0, 1) := by decide +kernel
theorem dX11_next_35 : decode cX11_next 35 = .ok (.getfield 154, 3) := by decide +kernel
theorem dX11_next_38 : decode cX11_next 38 = .ok (.putfield 164, 3) := by decide +kernel
theorem dX11_next_41 : decode cX11_next 41 = .ok (.aload_n 0, 1) := by decide +kernel
theorem dX11_next_42 : decode cX11_next 42 = .ok (.iconst 0, 1) := by decide +kernel
theorem dX11_next_43 : decode cX11_next 43 = .ok (.invokevirtual 160, 3) := by decide +kernel
theorem dX11_next_46 : decode cX11_next 46 = .ok (.istore_n 1, 1) := by decide +kernel
theorem dX11_next_47 : decode cX11_next 47 = .ok (.iconst 0, 1) := by decide +kernel
theorem dX11_next_48 : decode cX11_next 48 = .ok (.istore_n 2, 1) := by decide +kernel
theorem dX11_next_49 : decode cX11_next 49 = .ok (.aload_n 0, 1) := by decide +kernel
theorem dX11_next_50 : decode cX11_next 50 = .ok (.lconst 0, 1) := by decide +kernel
theorem dX11_next_51 : decode cX11_next 51 = .ok (.putfield 167, 3) := by decide +kernel
theorem dX11_next_54 : decode cX11_next 54 = .ok (.aload_n 0, 1) := by decide +kernel
theorem dX11_next_55 : decode cX11_next 55 = .ok (.iconst 0, 1) := by decide +kernel
theorem dX11_next_56 : decode cX11_next 56 = .ok (.putfield 171, 3) := by decide +kernel
theorem dX11_next_59 : decode cX11_next 59 = .ok (.iload_n 1, 1) := by decide +kernel
theorem dX11_next_60 : decode cX11_next 60 = .ok (.ifCond .ge 11, 3) := by decide +kernel
theorem dX11_next_63 : decode cX11_next 63 = .ok (.aload_n 0, 1) := by decide +kernel
theorem dX11_next_64 : decode cX11_next 64 = .ok (.iconst 0, 1) := by decide +kernel
theorem dX11_next_65 : decode cX11_next 65 = .ok (.putfield 174, 3) := by decide +kernel
theorem dX11_next_68 : decode cX11_next 68 = .ok (.goto 164, 3) := by decide +kernel
theorem dX11_next_71 : decode cX11_next 71 = .ok (.iload_n 1, 1) := by decide +kernel
theorem dX11_next_72 : decode cX11_next 72 = .ok (.invokestatic 177, 3) := by decide +kernel
theorem dX11_next_75 : decode cX11_next 75 = .ok (.ifCond .eq 62, 3) := by decide +kernel
theorem dX11_next_78 : decode cX11_next 78 = .ok (.aload_n 0, 1) := by decide +kernel
theorem dX11_next_79 : decode cX11_next 79 = .ok (.iload_n 2, 1) := by decide +kernel
theorem dX11_next_80 : decode cX11_next 80 = .ok (.invokevirtual 160, 3) := by decide +kernel
theorem dX11_next_83 : decode cX11_next 83 = .ok (.invokestatic 177, 3) := by decide +kernel
theorem dX11_next_86 : decode cX11_next 86 = .ok (.ifCond .eq 33, 3) := by decide +kernel
theorem dX11_next_89 : decode cX11_next 89 = .ok (.iload_n 2, 1) := by decide +kernel
theorem dX11_next_90 : decode cX11_next 90 = .ok (.bipush 8, 2) := by decide +kernel
theorem dX11_next_92 : decode cX11_next 92 = .ok (.if_icmp .ge 21, 3) := by decide +kernel
theorem dX11_next_95 : decode cX11_next 95 = .ok (.aload_n 0, 1) := by decide +kernel
theorem dX11_next_96 : decode cX11_next 96 = .ok (.aload_n 0, 1) := by decide +kernel
theorem dX11_next_97 : decode cX11_next 97 = .ok (.getfield 167, 3) := by decide +kernel
theorem dX11_next_100 : decode cX11_next 100 = .ok (.bipush 8, 2) := by decide +kernel
theorem dX11_next_102 : decode cX11_next 102 = .ok (.lshl, 1) := by decide +kernel
theorem dX11_next_103 : decode cX11_next 103 = .ok (.aload_n 0, 1) := by decide +kernel
theorem dX11_next_104 : decode cX11_next 104 = .ok (.iload_n 2, 1) := by decide +kernel
theorem dX11_next_105 : decode cX11_next 105 = .ok (.invokevirtual 160, 3) := by decide +kernel
theorem dX11_next_108 : decode cX11_next 108 = .ok (.i2l, 1) := by decide +kernel
theorem dX11_next_109 : decode cX11_next 109 = .ok (.lor, 1) := by decide +kernel
theorem dX11_next_110 : decode cX11_next 110 = .ok (.putfield 167, 3) := by decide +kernel
theorem dX11_next_113 : decode cX11_next 113 = .ok (.iinc 2 1, 3) := by decide +kernel
theorem dX11_next_116 : decode cX11_next 116 = .ok (.goto (-38), 3) := by decide +kernel
theorem dX11_next_119 : decode cX11_next 119 = .ok (.aload_n 0, 1) := by decide +kernel
theorem dX11_next_120 : decode cX11_next 120 = .ok (.iload_n 2, 1) := by decide +kernel
theorem dX11_next_121 : decode cX11_next 121 = .ok (.bipush 8, 2) := by decide +kernel
theorem dX11_next_123 : decode cX11_next 123 = .ok (.if_icmp .le 7, 3) := by decide +kernel
theorem dX11_next_126 : decode cX11_next 126 = .ok (.iconst 3, 1) := by decide +kernel
theorem dX11_next_127 : decode cX11_next 127 = .ok (.goto 4, 3) := by decide +kernel
theorem dX11_next_130 : decode cX11_next 130 = .ok (.iconst 1, 1) := by decide +kernel
theorem dX11_next_131 : decode cX11_next 131 = .ok (.putfield 174, 3) := by decide +kernel
theorem dX11_next_134 : decode cX11_next 134 = .ok (.goto 98, 3) := by decide +kernel
theorem dX11_next_137 : decode cX11_next 137 = .ok (.iload_n 1, 1) := by decide +kernel
theorem dX11_next_138 : decode cX11_next 138 = .ok (.invokestatic 181, 3) := by decide +kernel
theorem dX11_next_141 : decode cX11_next 141 = .ok (.ifCond .eq 73, 3) := by decide +kernel
theorem dX11_next_144 : decode cX11_next 144 = .ok (.aload_n 0, 1) := by decide +kernel
theorem dX11_next_145 : decode cX11_next 145 = .ok (.iload_n 2, 1) := by decide +kernel
theorem dX11_next_146 : decode cX11_next 146 = .ok (.invokevirtual 160, 3) := by decide +kernel
theorem dX11_next_149 : decode cX11_next 149 = .ok (.invokestatic 181, 3) := by decide +kernel
theorem dX11_next_152 : decode cX11_next 152 = .ok (.ifCond .eq 34, 3) := by decide +kernel
theorem dX11_next_155 : decode cX11_next 155 = .ok (.iload_n 2, 1) := by decide +kernel
theorem dX11_next_156 : decode cX11_next 156 = .ok (.iconst 4, 1) := by decide +kernel
theorem dX11_next_157 : decode cX11_next 157 = .ok (.if_icmp .ge 23, 3) := by decide +kernel
theorem dX11_next_160 : decode cX11_next 160 = .ok (.aload_n 0, 1) := by decide +kernel
theorem dX11_next_161 : decode cX11_next 161 = .ok (.bipush 10, 2) := by decide +kernel
theorem dX11_next_163 : decode cX11_next 163 = .ok (.aload_n 0, 1) := by decide +kernel
theorem dX11_next_164 : decode cX11_next 164 = .ok (.getfield 171, 3) := by decide +kernel
theorem dX11_next_167 : decode cX11_next 167 = .ok (.imul, 1) := by decide +kernel
theorem dX11_next_168 : decode cX11_next 168 = .ok (.aload_n 0, 1) := by decide +kernel
theorem dX11_next_169 : decode cX11_next 169 = .ok (.iload_n 2, 1) := by decide +kernel
theorem dX11_next_170 : decode cX11_next 170 = .ok (.invokevirtual 160, 3) := by decide +kernel
theorem dX11_next_173 : decode cX11_next 173 = .ok (.iadd, 1) := by decide +kernel
theorem dX11_next_174 : decode cX11_next 174 = .ok (.bipush 48, 2) := by decide +kernel
theorem dX11_next_176 : decode cX11_next 176 = .ok (.isub, 1) := by decide +kernel
theorem dX11_next_177 : decode cX11_next 177 = .ok (.putfield 171, 3) := by decide +kernel
theorem dX11_next_180 : decode cX11_next 180 = .ok (.iinc 2 1, 3) := by decide +kernel
theorem dX11_next_183 : decode cX11_next 183 = .ok (.goto (-39), 3) := by decide +kernel
theorem dX11_next_186 : decode cX11_next 186 = .ok (.aload_n 0, 1) := by decide +kernel
theorem dX11_next_187 : decode cX11_next 187 = .ok (.iload_n 2, 1) := by decide +kernel
theorem dX11_next_188 : decode cX11_next 188 = .ok (.iconst 4, 1) := by decide +kernel
theorem dX11_next_189 : decode cX11_next 189 = .ok (.if_icmp .gt 14, 3) := by decide +kernel
theorem dX11_next_192 : decode cX11_next 192 = .ok (.aload_n 0, 1) := by decide +kernel
theorem dX11_next_193 : decode cX11_next 193 = .ok (.iload_n 2, 1) := by decide +kernel
theorem dX11_next_194 : decode cX11_next 194 = .ok (.invokevirtual 160, 3) := by decide +kernel
theorem dX11_next_197 : decode cX11_next 197 = .ok (.invokestatic 177, 3) := by decide +kernel
theorem dX11_next_200 : decode cX11_next 200 = .ok (.ifCond .eq 7, 3) := by decide +kernel
theorem dX11_next_203 : decode cX11_next 203 = .ok (.iconst 3, 1) := by decide +kernel
theorem dX11_next_204 : decode cX11_next 204 = .ok (.goto 4, 3) := by decide +kernel
theorem dX11_next_207 : decode cX11_next 207 = .ok (.iconst 2, 1) := by decide +kernel
theorem dX11_next_208 : decode cX11_next 208 = .ok (.putfield 174, 3) := by decide +kernel
theorem dX11_next_211 : decode cX11_next 211 = .ok (.goto 21, 3) := by decide +kernel
theorem dX11_next_214 : decode cX11_next 214 = .ok (.iconst 1, 1) := by decide +kernel
theorem dX11_next_215 : decode cX11_next 215 = .ok (.istore_n 2, 1) := by decide +kernel
theorem dX11_next_216 : decode cX11_next 216 = .ok (.aload_n 0, 1) := by decide +kernel
theorem dX11_next_217 : decode cX11_next 217 = .ok (.iload_n 1, 1) := by decide +kernel
theorem dX11_next_218 : decode cX11_next 218 = .ok (.invokestatic 184, 3) := by decide +kernel
theorem dX11_next_221 : decode cX11_next 221 = .ok (.ifCond .eq 7, 3) := by decide +kernel
theorem dX11_next_224 : decode cX11_next 224 = .ok (.iload_n 1, 1) := by decide +kernel
theorem dX11_next_225 : decode cX11_next 225 = .ok (.goto 4, 3) := by decide +kernel
theorem dX11_next_228 : decode cX11_next 228 = .ok (.iconst 3, 1) := by decide +kernel
theorem dX11_next_229 : decode cX11_next 229 = .ok (.putfield 174, 3) := by decide +kernel
theorem dX11_next_232 : decode cX11_next 232 = .ok (.aload_n 0, 1) := by decide +kernel
theorem dX11_next_233 : decode cX11_next 233 = .ok (.getfield 174, 3) := by decide +kernel
theorem dX11_next_236 : decode cX11_next 236 = .ok (.iconst 3, 1) := by decide +kernel
theorem dX11_next_237 : decode cX11_next 237 = .ok (.if_icmp .eq 13, 3) := by decide +kernel
theorem dX11_next_240 : decode cX11_next 240 = .ok (.aload_n 0, 1) := by decide +kernel
theorem dX11_next_241 : decode cX11_next 241 = .ok (.dup, 1) := by decide +kernel
theorem dX11_next_242 : decode cX11_next 242 = .ok (.getfield 154, 3) := by decide +kernel
theorem dX11_next_245 : decode cX11_next 245 = .ok (.iload_n 2, 1) := by decide +kernel
theorem dX11_next_246 : decode cX11_next 246 = .ok (.iadd, 1) := by decide +kernel
theorem dX11_next_247 : decode cX11_next 247 = .ok (.putfield 154, 3) := by decide +kernel
theorem dX11_next_250 : decode cX11_next 250 = .ok (.return_, 1) := by decide +kernel
theorem dX11_wrong_0 : decode cX11_wrong 0 = .ok (.aload_n 0, 1) := by decide +kernel
theorem dX11_wrong_1 : decode cX11_wrong 1 = .ok (.getfield 187, 3) := by decide +kernel
theorem dX11_wrong_4 : decode cX11_wrong 4 = .ok (.ifCond .le 4, 3) := by decide +kernel
theorem dX11_wrong_7 : decode cX11_wrong 7 = .ok (.return_, 1) := by decide +kernel
theorem dX11_wrong_8 : decode cX11_wrong 8 = .ok (.aload_n 0, 1) := by decide +kernel
theorem dX11_wrong_9 : decode cX11_wrong 9 = .ok (.aload_n 0, 1) := by decide +kernel
theorem dX11_wrong_10 : decode cX11_wrong 10 = .ok (.getfield 174, 3) := by decide +kernel
theorem dX11_wrong_13 : decode cX11_wrong 13 = .ok (.iconst 3, 1) := by decide +kernel
theorem dX11_wrong_14 : decode cX11_wrong 14 = .ok (.if_icmp .ne 7, 3) := by decide +kernel
theorem dX11_wrong_17 : decode cX11_wrong 17 = .ok (.iconst 1, 1) := by decide +kernel
theorem dX11_wrong_18 : decode cX11_wrong 18 = .ok (.goto 4, 3) := by decide +kernel
theorem dX11_wrong_21 : decode cX11_wrong 21 = .ok (.iload_n 1, 1) := by decide +kernel
theorem dX11_wrong_22 : decode cX11_wrong 22 = .ok (.putfield 187, 3) := by decide +kernel
theorem dX11_wrong_25 : decode cX11_wrong 25 = .ok (.aload_n 0, 1) := by decide +kernel
theorem dX11_wrong_26 : decode cX11_wrong 26 = .ok (.aload_n 0, 1) := by decide +kernel
theorem dX11_wrong_27 : decode cX11_wrong 27 = .ok (.getfield 164, 3) := by decide +kernel
theorem dX11_wrong_30 : decode cX11_wrong 30 = .ok (.putfield 16, 3) := by decide +kernel
theorem dX11_wrong_33 : decode cX11_wrong 33 = .ok (.return_, 1) := by decide +kernel
theorem dX11_isWord_0 : decode cX11_isWord 0 = .ok (.aload_n 0, 1) := by decide +kernel
theorem dX11_isWord_1 : decode cX11_isWord 1 = .ok (.getfield 174, 3) := by decide +kernel
theorem dX11_isWord_4 : decode cX11_isWord 4 = .ok (.iconst 1, 1) := by decide +kernel
theorem dX11_isWord_5 : decode cX11_isWord 5 = .ok (.if_icmp .ne 16, 3) := by decide +kernel
theorem dX11_isWord_8 : decode cX11_isWord 8 = .ok (.aload_n 0, 1) := by decide +kernel
theorem dX11_isWord_9 : decode cX11_isWord 9 = .ok (.getfield 167, 3) := by decide +kernel
theorem dX11_isWord_12 : decode cX11_isWord 12 = .ok (.lload_n 1, 1) := by decide +kernel
theorem dX11_isWord_13 : decode cX11_isWord 13 = .ok (.lcmp, 1) := by decide +kernel
theorem dX11_isWord_14 : decode cX11_isWord 14 = .ok (.ifCond .ne 7, 3) := by decide +kernel
theorem dX11_isWord_17 : decode cX11_isWord 17 = .ok (.iconst 1, 1) := by decide +kernel
theorem dX11_isWord_18 : decode cX11_isWord 18 = .ok (.goto 4, 3) := by decide +kernel
theorem dX11_isWord_21 : decode cX11_isWord 21 = .ok (.iconst 0, 1) := by decide +kernel
theorem dX11_isWord_22 : decode cX11_isWord 22 = .ok (.ireturn, 1) := by decide +kernel
theorem dX11_named_0 : decode cX11_named 0 = .ok (.aload_n 0, 1) := by decide +kernel
theorem dX11_named_1 : decode cX11_named 1 = .ok (.getfield 174, 3) := by decide +kernel
theorem dX11_named_4 : decode cX11_named 4 = .ok (.iconst 1, 1) := by decide +kernel
theorem dX11_named_5 : decode cX11_named 5 = .ok (.if_icmp .eq 7, 3) := by decide +kernel
theorem dX11_named_8 : decode cX11_named 8 = .ok (.iconst (-1), 1) := by decide +kernel
theorem dX11_named_9 : decode cX11_named 9 = .ok (.goto 79, 3) := by decide +kernel
theorem dX11_named_12 : decode cX11_named 12 = .ok (.aload_n 0, 1) := by decide +kernel
theorem dX11_named_13 : decode cX11_named 13 = .ok (.getfield 167, 3) := by decide +kernel
theorem dX11_named_16 : decode cX11_named 16 = .ok (.ldc2_w 190, 3) := by decide +kernel
theorem dX11_named_19 : decode cX11_named 19 = .ok (.lcmp, 1) := by decide +kernel
theorem dX11_named_20 : decode cX11_named 20 = .ok (.ifCond .ne 7, 3) := by decide +kernel
theorem dX11_named_23 : decode cX11_named 23 = .ok (.iconst 0, 1) := by decide +kernel
theorem dX11_named_24 : decode cX11_named 24 = .ok (.goto 64, 3) := by decide +kernel
theorem dX11_named_27 : decode cX11_named 27 = .ok (.aload_n 0, 1) := by decide +kernel
theorem dX11_named_28 : decode cX11_named 28 = .ok (.getfield 167, 3) := by decide +kernel
theorem dX11_named_31 : decode cX11_named 31 = .ok (.ldc2_w 192, 3) := by decide +kernel
theorem dX11_named_34 : decode cX11_named 34 = .ok (.lcmp, 1) := by decide +kernel
theorem dX11_named_35 : decode cX11_named 35 = .ok (.ifCond .ne 7, 3) := by decide +kernel
theorem dX11_named_38 : decode cX11_named 38 = .ok (.iconst 1, 1) := by decide +kernel
theorem dX11_named_39 : decode cX11_named 39 = .ok (.goto 49, 3) := by decide +kernel
theorem dX11_named_42 : decode cX11_named 42 = .ok (.aload_n 0, 1) := by decide +kernel
theorem dX11_named_43 : decode cX11_named 43 = .ok (.getfield 167, 3) := by decide +kernel
theorem dX11_named_46 : decode cX11_named 46 = .ok (.ldc2_w 194, 3) := by decide +kernel
theorem dX11_named_49 : decode cX11_named 49 = .ok (.lcmp, 1) := by decide +kernel
theorem dX11_named_50 : decode cX11_named 50 = .ok (.ifCond .ne 7, 3) := by decide +kernel
theorem dX11_named_53 : decode cX11_named 53 = .ok (.iconst 2, 1) := by decide +kernel
theorem dX11_named_54 : decode cX11_named 54 = .ok (.goto 34, 3) := by decide +kernel
theorem dX11_named_57 : decode cX11_named 57 = .ok (.aload_n 0, 1) := by decide +kernel
theorem dX11_named_58 : decode cX11_named 58 = .ok (.getfield 167, 3) := by decide +kernel
theorem dX11_named_61 : decode cX11_named 61 = .ok (.ldc2_w 196, 3) := by decide +kernel
theorem dX11_named_64 : decode cX11_named 64 = .ok (.lcmp, 1) := by decide +kernel
theorem dX11_named_65 : decode cX11_named 65 = .ok (.ifCond .ne 7, 3) := by decide +kernel
theorem dX11_named_68 : decode cX11_named 68 = .ok (.iconst 3, 1) := by decide +kernel
theorem dX11_named_69 : decode cX11_named 69 = .ok (.goto 19, 3) := by decide +kernel
theorem dX11_named_72 : decode cX11_named 72 = .ok (.aload_n 0, 1) := by decide +kernel
theorem dX11_named_73 : decode cX11_named 73 = .ok (.getfield 167, 3) := by decide +kernel
theorem dX11_named_76 : decode cX11_named 76 = .ok (.ldc2_w 198, 3) := by decide +kernel
theorem dX11_named_79 : decode cX11_named 79 = .ok (.lcmp, 1) := by decide +kernel
theorem dX11_named_80 : decode cX11_named 80 = .ok (.ifCond .ne 7, 3) := by decide +kernel
theorem dX11_named_83 : decode cX11_named 83 = .ok (.iconst 4, 1) := by decide +kernel
theorem dX11_named_84 : decode cX11_named 84 = .ok (.goto 4, 3) := by decide +kernel
theorem dX11_named_87 : decode cX11_named 87 = .ok (.iconst (-1), 1) := by decide +kernel
theorem dX11_named_88 : decode cX11_named 88 = .ok (.ireturn, 1) := by decide +kernel
theorem dX11_step_0 : decode cX11_step 0 = .ok (.aload_n 0, 1) := by decide +kernel
theorem dX11_step_1 : decode cX11_step 1 = .ok (.getfield 41, 3) := by decide +kernel
theorem dX11_step_4 : decode cX11_step 4 = .ok (.aload_n 0, 1) := by decide +kernel
theorem dX11_step_5 : decode cX11_step 5 = .ok (.getfield 200, 3) := by decide +kernel
theorem dX11_step_8 : decode cX11_step 8 = .ok (.iload_n 1, 1) := by decide +kernel
theorem dX11_step_9 : decode cX11_step 9 = .ok (.iastore, 1) := by decide +kernel
theorem dX11_step_10 : decode cX11_step 10 = .ok (.aload_n 0, 1) := by decide +kernel
theorem dX11_step_11 : decode cX11_step 11 = .ok (.getfield 44, 3) := by decide +kernel
theorem dX11_step_14 : decode cX11_step 14 = .ok (.aload_n 0, 1) := by decide +kernel
theorem dX11_step_15 : decode cX11_step 15 = .ok (.getfield 200, 3) := by decide +kernel
theorem dX11_step_18 : decode cX11_step 18 = .ok (.iload_n 2, 1) := by decide +kernel
theorem dX11_step_19 : decode cX11_step 19 = .ok (.iastore, 1) := by decide +kernel
theorem dX11_step_20 : decode cX11_step 20 = .ok (.aload_n 0, 1) := by decide +kernel
theorem dX11_step_21 : decode cX11_step 21 = .ok (.dup, 1) := by decide +kernel
theorem dX11_step_22 : decode cX11_step 22 = .ok (.getfield 200, 3) := by decide +kernel
theorem dX11_step_25 : decode cX11_step 25 = .ok (.iconst 1, 1) := by decide +kernel
theorem dX11_step_26 : decode cX11_step 26 = .ok (.iadd, 1) := by decide +kernel
theorem dX11_step_27 : decode cX11_step 27 = .ok (.putfield 200, 3) := by decide +kernel
theorem dX11_step_30 : decode cX11_step 30 = .ok (.return_, 1) := by decide +kernel
theorem dX11_told_0 : decode cX11_told 0 = .ok (.aload_n 0, 1) := by decide +kernel
theorem dX11_told_1 : decode cX11_told 1 = .ok (.getfield 174, 3) := by decide +kernel
theorem dX11_told_4 : decode cX11_told 4 = .ok (.iconst 2, 1) := by decide +kernel
theorem dX11_told_5 : decode cX11_told 5 = .ok (.if_icmp .eq 11, 3) := by decide +kernel
theorem dX11_told_8 : decode cX11_told 8 = .ok (.aload_n 0, 1) := by decide +kernel
theorem dX11_told_9 : decode cX11_told 9 = .ok (.iconst 2, 1) := by decide +kernel
theorem dX11_told_10 : decode cX11_told 10 = .ok (.invokevirtual 203, 3) := by decide +kernel
theorem dX11_told_13 : decode cX11_told 13 = .ok (.goto 24, 3) := by decide +kernel
theorem dX11_told_16 : decode cX11_told 16 = .ok (.aload_n 0, 1) := by decide +kernel
theorem dX11_told_17 : decode cX11_told 17 = .ok (.getfield 171, 3) := by decide +kernel
theorem dX11_told_20 : decode cX11_told 20 = .ok (.iload_n 1, 1) := by decide +kernel
theorem dX11_told_21 : decode cX11_told 21 = .ok (.if_icmp .lt 11, 3) := by decide +kernel
theorem dX11_told_24 : decode cX11_told 24 = .ok (.aload_n 0, 1) := by decide +kernel
theorem dX11_told_25 : decode cX11_told 25 = .ok (.getfield 171, 3) := by decide +kernel
theorem dX11_told_28 : decode cX11_told 28 = .ok (.iload_n 2, 1) := by decide +kernel
theorem dX11_told_29 : decode cX11_told 29 = .ok (.if_icmp .le 8, 3) := by decide +kernel
theorem dX11_told_32 : decode cX11_told 32 = .ok (.aload_n 0, 1) := by decide +kernel
theorem dX11_told_33 : decode cX11_told 33 = .ok (.iconst 3, 1) := by decide +kernel
theorem dX11_told_34 : decode cX11_told 34 = .ok (.invokevirtual 203, 3) := by decide +kernel
theorem dX11_told_37 : decode cX11_told 37 = .ok (.aload_n 0, 1) := by decide +kernel
theorem dX11_told_38 : decode cX11_told 38 = .ok (.getfield 171, 3) := by decide +kernel
theorem dX11_told_41 : decode cX11_told 41 = .ok (.istore_n 3, 1) := by decide +kernel
theorem dX11_told_42 : decode cX11_told 42 = .ok (.aload_n 0, 1) := by decide +kernel
theorem dX11_told_43 : decode cX11_told 43 = .ok (.getfield 187, 3) := by decide +kernel
theorem dX11_told_46 : decode cX11_told 46 = .ok (.ifCond .ne 7, 3) := by decide +kernel
theorem dX11_told_49 : decode cX11_told 49 = .ok (.aload_n 0, 1) := by decide +kernel
theorem dX11_told_50 : decode cX11_told 50 = .ok (.invokevirtual 206, 3) := by decide +kernel
theorem dX11_told_53 : decode cX11_told 53 = .ok (.iload_n 3, 1) := by decide +kernel
theorem dX11_told_54 : decode cX11_told 54 = .ok (.ireturn, 1) := by decide +kernel
theorem dX11_hold_0 : decode cX11_hold 0 = .ok (.aload_n 0, 1) := by decide +kernel
theorem dX11_hold_1 : decode cX11_hold 1 = .ok (.getfield 50, 3) := by decide +kernel
theorem dX11_hold_4 : decode cX11_hold 4 = .ok (.aload_n 0, 1) := by decide +kernel
theorem dX11_hold_5 : decode cX11_hold 5 = .ok (.getfield 209, 3) := by decide +kernel
theorem dX11_hold_8 : decode cX11_hold 8 = .ok (.iload_n 1, 1) := by decide +kernel
theorem dX11_hold_9 : decode cX11_hold 9 = .ok (.iastore, 1) := by decide +kernel
theorem dX11_hold_10 : decode cX11_hold 10 = .ok (.aload_n 0, 1) := by decide +kernel
theorem dX11_hold_11 : decode cX11_hold 11 = .ok (.dup, 1) := by decide +kernel
theorem dX11_hold_12 : decode cX11_hold 12 = .ok (.getfield 209, 3) := by decide +kernel
theorem dX11_hold_15 : decode cX11_hold 15 = .ok (.iconst 1, 1) := by decide +kernel
theorem dX11_hold_16 : decode cX11_hold 16 = .ok (.iadd, 1) := by decide +kernel
theorem dX11_hold_17 : decode cX11_hold 17 = .ok (.putfield 209, 3) := by decide +kernel
theorem dX11_hold_20 : decode cX11_hold 20 = .ok (.iload_n 1, 1) := by decide +kernel
theorem dX11_hold_21 : decode cX11_hold 21 = .ok (.bipush 28, 2) := by decide +kernel
theorem dX11_hold_23 : decode cX11_hold 23 = .ok (.if_icmp .eq 9, 3) := by decide +kernel
theorem dX11_hold_26 : decode cX11_hold 26 = .ok (.iload_n 1, 1) := by decide +kernel
theorem dX11_hold_27 : decode cX11_hold 27 = .ok (.bipush 20, 2) := by decide +kernel
theorem dX11_hold_29 : decode cX11_hold 29 = .ok (.if_icmp .ne 13, 3) := by decide +kernel
theorem dX11_hold_32 : decode cX11_hold 32 = .ok (.aload_n 0, 1) := by decide +kernel
theorem dX11_hold_33 : decode cX11_hold 33 = .ok (.dup, 1) := by decide +kernel
theorem dX11_hold_34 : decode cX11_hold 34 = .ok (.getfield 212, 3) := by decide +kernel
theorem dX11_hold_37 : decode cX11_hold 37 = .ok (.iconst 1, 1) := by decide +kernel
theorem dX11_hold_38 : decode cX11_hold 38 = .ok (.iadd, 1) := by decide +kernel
theorem dX11_hold_39 : decode cX11_hold 39 = .ok (.putfield 212, 3) := by decide +kernel
theorem dX11_hold_42 : decode cX11_hold 42 = .ok (.return_, 1) := by decide +kernel
theorem dX11_pop_0 : decode cX11_pop 0 = .ok (.aload_n 0, 1) := by decide +kernel
theorem dX11_pop_1 : decode cX11_pop 1 = .ok (.dup, 1) := by decide +kernel
theorem dX11_pop_2 : decode cX11_pop 2 = .ok (.getfield 209, 3) := by decide +kernel
theorem dX11_pop_5 : decode cX11_pop 5 = .ok (.iconst 1, 1) := by decide +kernel
theorem dX11_pop_6 : decode cX11_pop 6 = .ok (.isub, 1) := by decide +kernel
theorem dX11_pop_7 : decode cX11_pop 7 = .ok (.putfield 209, 3) := by decide +kernel
theorem dX11_pop_10 : decode cX11_pop 10 = .ok (.aload_n 0, 1) := by decide +kernel
theorem dX11_pop_11 : decode cX11_pop 11 = .ok (.getfield 50, 3) := by decide +kernel
theorem dX11_pop_14 : decode cX11_pop 14 = .ok (.aload_n 0, 1) := by decide +kernel
theorem dX11_pop_15 : decode cX11_pop 15 = .ok (.getfield 209, 3) := by decide +kernel
theorem dX11_pop_18 : decode cX11_pop 18 = .ok (.iaload, 1) := by decide +kernel
theorem dX11_pop_19 : decode cX11_pop 19 = .ok (.bipush 20, 2) := by decide +kernel
theorem dX11_pop_21 : decode cX11_pop 21 = .ok (.if_icmp .ne 13, 3) := by decide +kernel
theorem dX11_pop_24 : decode cX11_pop 24 = .ok (.aload_n 0, 1) := by decide +kernel
theorem dX11_pop_25 : decode cX11_pop 25 = .ok (.dup, 1) := by decide +kernel
theorem dX11_pop_26 : decode cX11_pop 26 = .ok (.getfield 212, 3) := by decide +kernel
theorem dX11_pop_29 : decode cX11_pop 29 = .ok (.iconst 1, 1) := by decide +kernel
theorem dX11_pop_30 : decode cX11_pop 30 = .ok (.isub, 1) := by decide +kernel
theorem dX11_pop_31 : decode cX11_pop 31 = .ok (.putfield 212, 3) := by decide +kernel
theorem dX11_pop_34 : decode cX11_pop 34 = .ok (.aload_n 0, 1) := by decide +kernel
theorem dX11_pop_35 : decode cX11_pop 35 = .ok (.aload_n 0, 1) := by decide +kernel
theorem dX11_pop_36 : decode cX11_pop 36 = .ok (.getfield 50, 3) := by decide +kernel
theorem dX11_pop_39 : decode cX11_pop 39 = .ok (.aload_n 0, 1) := by decide +kernel
theorem dX11_pop_40 : decode cX11_pop 40 = .ok (.getfield 209, 3) := by decide +kernel
theorem dX11_pop_43 : decode cX11_pop 43 = .ok (.iaload, 1) := by decide +kernel
theorem dX11_pop_44 : decode cX11_pop 44 = .ok (.iconst 0, 1) := by decide +kernel
theorem dX11_pop_45 : decode cX11_pop 45 = .ok (.invokevirtual 215, 3) := by decide +kernel
theorem dX11_pop_48 : decode cX11_pop 48 = .ok (.return_, 1) := by decide +kernel
theorem dX11_settle_0 : decode cX11_settle 0 = .ok (.aload_n 0, 1) := by decide +kernel
theorem dX11_settle_1 : decode cX11_settle 1 = .ok (.getfield 209, 3) := by decide +kernel
theorem dX11_settle_4 : decode cX11_settle 4 = .ok (.ifCond .le 41, 3) := by decide +kernel
theorem dX11_settle_7 : decode cX11_settle 7 = .ok (.aload_n 0, 1) := by decide +kernel
theorem dX11_settle_8 : decode cX11_settle 8 = .ok (.getfield 50, 3) := by decide +kernel
theorem dX11_settle_11 : decode cX11_settle 11 = .ok (.aload_n 0, 1) := by decide +kernel
theorem dX11_settle_12 : decode cX11_settle 12 = .ok (.getfield 209, 3) := by decide +kernel
theorem dX11_settle_15 : decode cX11_settle 15 = .ok (.iconst 1, 1) := by decide +kernel
theorem dX11_settle_16 : decode cX11_settle 16 = .ok (.isub, 1) := by decide +kernel
theorem dX11_settle_17 : decode cX11_settle 17 = .ok (.iaload, 1) := by decide +kernel
theorem dX11_settle_18 : decode cX11_settle 18 = .ok (.bipush 28, 2) := by decide +kernel
theorem dX11_settle_20 : decode cX11_settle 20 = .ok (.if_icmp .eq 25, 3) := by decide +kernel
theorem dX11_settle_23 : decode cX11_settle 23 = .ok (.aload_n 0, 1) := by decide +kernel
theorem dX11_settle_24 : decode cX11_settle 24 = .ok (.getfield 50, 3) := by decide +kernel
theorem dX11_settle_27 : decode cX11_settle 27 = .ok (.aload_n 0, 1) := by decide +kernel
theorem dX11_settle_28 : decode cX11_settle 28 = .ok (.getfield 209, 3) := by decide +kernel
theorem dX11_settle_31 : decode cX11_settle 31 = .ok (.iconst 1, 1) := by decide +kernel
theorem dX11_settle_32 : decode cX11_settle 32 = .ok (.isub, 1) := by decide +kernel
theorem dX11_settle_33 : decode cX11_settle 33 = .ok (.iaload, 1) := by decide +kernel
theorem dX11_settle_34 : decode cX11_settle 34 = .ok (.iload_n 1, 1) := by decide +kernel
theorem dX11_settle_35 : decode cX11_settle 35 = .ok (.if_icmp .lt 10, 3) := by decide +kernel
theorem dX11_settle_38 : decode cX11_settle 38 = .ok (.aload_n 0, 1) := by decide +kernel
theorem dX11_settle_39 : decode cX11_settle 39 = .ok (.invokevirtual 219, 3) := by decide +kernel
theorem dX11_settle_42 : decode cX11_settle 42 = .ok (.goto (-42), 3) := by decide +kernel
theorem dX11_settle_45 : decode cX11_settle 45 = .ok (.return_, 1) := by decide +kernel
theorem dX11_isOpen_0 : decode cX11_isOpen 0 = .ok (.iconst 0, 1) := by decide +kernel
theorem dX11_isOpen_1 : decode cX11_isOpen 1 = .ok (.istore_n 1, 1) := by decide +kernel
theorem dX11_isOpen_2 : decode cX11_isOpen 2 = .ok (.iconst 0, 1) := by decide +kernel
theorem dX11_isOpen_3 : decode cX11_isOpen 3 = .ok (.istore_n 2, 1) := by decide +kernel
theorem dX11_isOpen_4 : decode cX11_isOpen 4 = .ok (.iload_n 2, 1) := by decide +kernel
theorem dX11_isOpen_5 : decode cX11_isOpen 5 = .ok (.aload_n 0, 1) := by decide +kernel
theorem dX11_isOpen_6 : decode cX11_isOpen 6 = .ok (.getfield 209, 3) := by decide +kernel
theorem dX11_isOpen_9 : decode cX11_isOpen 9 = .ok (.if_icmp .ge 30, 3) := by decide +kernel
theorem dX11_isOpen_12 : decode cX11_isOpen 12 = .ok (.iload_n 1, 1) := by decide +kernel
theorem dX11_isOpen_13 : decode cX11_isOpen 13 = .ok (.ifCond .ne 14, 3) := by decide +kernel
theorem dX11_isOpen_16 : decode cX11_isOpen 16 = .ok (.aload_n 0, 1) := by decide +kernel
theorem dX11_isOpen_17 : decode cX11_isOpen 17 = .ok (.getfield 50, 3) := by decide +kernel
theorem dX11_isOpen_20 : decode cX11_isOpen 20 = .ok (.iload_n 2, 1) := by decide +kernel
theorem dX11_isOpen_21 : decode cX11_isOpen 21 = .ok (.iaload, 1) := by decide +kernel
theorem dX11_isOpen_22 : decode cX11_isOpen 22 = .ok (.bipush 28, 2) := by decide +kernel
theorem dX11_isOpen_24 : decode cX11_isOpen 24 = .ok (.if_icmp .ne 7, 3) := by decide +kernel
theorem dX11_isOpen_27 : decode cX11_isOpen 27 = .ok (.iconst 1, 1) := by decide +kernel
theorem dX11_isOpen_28 : decode cX11_isOpen 28 = .ok (.goto 4, 3) := by decide +kernel
theorem dX11_isOpen_31 : decode cX11_isOpen 31 = .ok (.iconst 0, 1) := by decide +kernel
theorem dX11_isOpen_32 : decode cX11_isOpen 32 = .ok (.istore_n 1, 1) := by decide +kernel
theorem dX11_isOpen_33 : decode cX11_isOpen 33 = .ok (.iinc 2 1, 3) := by decide +kernel
theorem dX11_isOpen_36 : decode cX11_isOpen 36 = .ok (.goto (-32), 3) := by decide +kernel
theorem dX11_isOpen_39 : decode cX11_isOpen 39 = .ok (.iload_n 1, 1) := by decide +kernel
theorem dX11_isOpen_40 : decode cX11_isOpen 40 = .ok (.ireturn, 1) := by decide +kernel
theorem dX11_readE_0 : decode cX11_readE 0 = .ok (.aload_n 0, 1) := by decide +kernel
theorem dX11_readE_1 : decode cX11_readE 1 = .ok (.iconst 0, 1) := by decide +kernel
theorem dX11_readE_2 : decode cX11_readE 2 = .ok (.putfield 209, 3) := by decide +kernel
theorem dX11_readE_5 : decode cX11_readE 5 = .ok (.aload_n 0, 1) := by decide +kernel
theorem dX11_readE_6 : decode cX11_readE 6 = .ok (.iconst 0, 1) := by decide +kernel
theorem dX11_readE_7 : decode cX11_readE 7 = .ok (.putfield 212, 3) := by decide +kernel
theorem dX11_readE_10 : decode cX11_readE 10 = .ok (.iconst 0, 1) := by decide +kernel
theorem dX11_readE_11 : decode cX11_readE 11 = .ok (.istore_n 1, 1) := by decide +kernel
theorem dX11_readE_12 : decode cX11_readE 12 = .ok (.iconst 1, 1) := by decide +kernel
theorem dX11_readE_13 : decode cX11_readE 13 = .ok (.istore_n 2, 1) := by decide +kernel
theorem dX11_readE_14 : decode cX11_readE 14 = .ok (.aload_n 0, 1) := by decide +kernel
theorem dX11_readE_15 : decode cX11_readE 15 = .ok (.getfield 187, 3) := by decide +kernel
theorem dX11_readE_18 : decode cX11_readE 18 = .ok (.ifCond .ne 82, 3) := by decide +kernel
theorem dX11_readE_21 : decode cX11_readE 21 = .ok (.iload_n 2, 1) := by decide +kernel
theorem dX11_readE_22 : decode cX11_readE 22 = .ok (.ifCond .eq 78, 3) := by decide +kernel
theorem dX11_readE_25 : decode cX11_readE 25 = .ok (.iload_n 1, 1) := by decide +kernel
theorem dX11_readE_26 : decode cX11_readE 26 = .ok (.iconst 4, 1) := by decide +kernel
theorem dX11_readE_27 : decode cX11_readE 27 = .ok (.if_icmp .eq 8, 3) := by decide +kernel
theorem dX11_readE_30 : decode cX11_readE 30 = .ok (.iload_n 1, 1) := by decide +kernel
theorem dX11_readE_31 : decode cX11_readE 31 = .ok (.iconst 5, 1) := by decide +kernel
theorem dX11_readE_32 : decode cX11_readE 32 = .ok (.if_icmp .ne 7, 3) := by decide +kernel
theorem dX11_readE_35 : decode cX11_readE 35 = .ok (.iconst 1, 1) := by decide +kernel
theorem dX11_readE_36 : decode cX11_readE 36 = .ok (.goto 4, 3) := by decide +kernel
theorem dX11_readE_39 : decode cX11_readE 39 = .ok (.iconst 0, 1) := by decide +kernel
theorem dX11_readE_40 : decode cX11_readE 40 = .ok (.istore_n 3, 1) := by decide +kernel
theorem dX11_readE_41 : decode cX11_readE 41 = .ok (.iload_n 3, 1) := by decide +kernel
theorem dX11_readE_42 : decode cX11_readE 42 = .ok (.ifCond .eq 19, 3) := by decide +kernel
theorem dX11_readE_45 : decode cX11_readE 45 = .ok (.aload_n 0, 1) := by decide +kernel
theorem dX11_readE_46 : decode cX11_readE 46 = .ok (.getfield 174, 3) := by decide +kernel
theorem dX11_readE_49 : decode cX11_readE 49 = .ok (.bipush 59, 2) := by decide +kernel
theorem dX11_readE_51 : decode cX11_readE 51 = .ok (.if_icmp .ne 10, 3) := by decide +kernel
theorem dX11_readE_54 : decode cX11_readE 54 = .ok (.aload_n 0, 1) := by decide +kernel
theorem dX11_readE_55 : decode cX11_readE 55 = .ok (.invokevirtual 222, 3) := by decide +kernel
theorem dX11_readE_58 : decode cX11_readE 58 = .ok (.ifCond .eq 7, 3) := by decide +kernel
theorem dX11_readE_61 : decode cX11_readE 61 = .ok (.iconst 1, 1) := by decide +kernel
theorem dX11_readE_62 : decode cX11_readE 62 = .ok (.goto 4, 3) := by decide +kernel
theorem dX11_readE_65 : decode cX11_readE 65 = .ok (.iconst 0, 1) := by decide +kernel
theorem dX11_readE_66 : decode cX11_readE 66 = .ok (.istore_n 2, 1) := by decide +kernel
theorem dX11_readE_67 : decode cX11_readE 67 = .ok (.iload_n 2, 1) := by decide +kernel
theorem dX11_readE_68 : decode cX11_readE 68 = .ok (.ifCond .ne 6, 3) := by decide +kernel
theorem dX11_readE_71 : decode cX11_readE 71 = .ok (.goto (-57), 3) := by decide +kernel
theorem dX11_readE_74 : decode cX11_readE 74 = .ok (.iload_n 1, 1) := by decide +kernel
theorem dX11_readE_75 : decode cX11_readE 75 = .ok (.iconst 3, 1) := by decide +kernel
theorem dX11_readE_76 : decode cX11_readE 76 = .ok (.if_icmp .eq 7, 3) := by decide +kernel
theorem dX11_readE_79 : decode cX11_readE 79 = .ok (.iload_n 3, 1) := by decide +kernel
theorem dX11_readE_80 : decode cX11_readE 80 = .ok (.ifCond .eq 11, 3) := by decide +kernel
theorem dX11_readE_83 : decode cX11_readE 83 = .ok (.aload_n 0, 1) := by decide +kernel
theorem dX11_readE_84 : decode cX11_readE 84 = .ok (.iload_n 1, 1) := by decide +kernel
theorem dX11_readE_85 : decode cX11_readE 85 = .ok (.invokevirtual 226, 3) := by decide +kernel
theorem dX11_readE_88 : decode cX11_readE 88 = .ok (.goto 8, 3) := by decide +kernel
theorem dX11_readE_91 : decode cX11_readE 91 = .ok (.aload_n 0, 1) := by decide +kernel
theorem dX11_readE_92 : decode cX11_readE 92 = .ok (.iload_n 1, 1) := by decide +kernel
theorem dX11_readE_93 : decode cX11_readE 93 = .ok (.invokevirtual 229, 3) := by decide +kernel
theorem dX11_readE_96 : decode cX11_readE 96 = .ok (.istore_n 1, 1) := by decide +kernel
theorem dX11_readE_97 : decode cX11_readE 97 = .ok (.goto (-83), 3) := by decide +kernel
theorem dX11_readE_100 : decode cX11_readE 100 = .ok (.aload_n 0, 1) := by decide +kernel
theorem dX11_readE_101 : decode cX11_readE 101 = .ok (.getfield 187, 3) := by decide +kernel
theorem dX11_readE_104 : decode cX11_readE 104 = .ok (.ifCond .ne 8, 3) := by decide +kernel
theorem dX11_readE_107 : decode cX11_readE 107 = .ok (.aload_n 0, 1) := by decide +kernel
theorem dX11_readE_108 : decode cX11_readE 108 = .ok (.iconst 0, 1) := by decide +kernel
theorem dX11_readE_109 : decode cX11_readE 109 = .ok (.invokevirtual 232, 3) := by decide +kernel
theorem dX11_readE_112 : decode cX11_readE 112 = .ok (.return_, 1) := by decide +kernel
theorem dX11_operand_0 : decode cX11_operand 0 = .ok (.aload_n 0, 1) := by decide +kernel
theorem dX11_operand_1 : decode cX11_operand 1 = .ok (.invokevirtual 235, 3) := by decide +kernel
theorem dX11_operand_4 : decode cX11_operand 4 = .ok (.istore_n 2, 1) := by decide +kernel
theorem dX11_operand_5 : decode cX11_operand 5 = .ok (.aload_n 0, 1) := by decide +kernel
theorem dX11_operand_6 : decode cX11_operand 6 = .ok (.getfield 174, 3) := by decide +kernel
theorem dX11_operand_9 : decode cX11_operand 9 = .ok (.iconst 2, 1) := by decide +kernel
theorem dX11_operand_10 : decode cX11_operand 10 = .ok (.if_icmp .eq 7, 3) := by decide +kernel
theorem dX11_operand_13 : decode cX11_operand 13 = .ok (.iload_n 2, 1) := by decide +kernel
theorem dX11_operand_14 : decode cX11_operand 14 = .ok (.ifCond .lt 7, 3) := by decide +kernel
theorem dX11_operand_17 : decode cX11_operand 17 = .ok (.iconst 1, 1) := by decide +kernel
theorem dX11_operand_18 : decode cX11_operand 18 = .ok (.goto 4, 3) := by decide +kernel
theorem dX11_operand_21 : decode cX11_operand 21 = .ok (.iconst 0, 1) := by decide +kernel
theorem dX11_operand_22 : decode cX11_operand 22 = .ok (.istore_n 3, 1) := by decide +kernel
theorem dX11_operand_23 : decode cX11_operand 23 = .ok (.iload_n 3, 1) := by decide +kernel
theorem dX11_operand_24 : decode cX11_operand 24 = .ok (.ifCond .ne 26, 3) := by decide +kernel
theorem dX11_operand_27 : decode cX11_operand 27 = .ok (.iload_n 1, 1) := by decide +kernel
theorem dX11_operand_28 : decode cX11_operand 28 = .ok (.ifCond .ne 26, 3) := by decide +kernel
theorem dX11_operand_31 : decode cX11_operand 31 = .ok (.aload_n 0, 1) := by decide +kernel
theorem dX11_operand_32 : decode cX11_operand 32 = .ok (.getfield 174, 3) := by decide +kernel
theorem dX11_operand_35 : decode cX11_operand 35 = .ok (.bipush 40, 2) := by decide +kernel
theorem dX11_operand_37 : decode cX11_operand 37 = .ok (.if_icmp .eq 13, 3) := by decide +kernel
theorem dX11_operand_40 : decode cX11_operand 40 = .ok (.aload_n 0, 1) := by decide +kernel
theorem dX11_operand_41 : decode cX11_operand 41 = .ok (.ldc2_w 239, 3) := by decide +kernel
theorem dX11_operand_44 : decode cX11_operand 44 = .ok (.invokevirtual 241, 3) := by decide +kernel
theorem dX11_operand_47 : decode cX11_operand 47 = .ok (.ifCond .eq 7, 3) := by decide +kernel
theorem dX11_operand_50 : decode cX11_operand 50 = .ok (.iconst 1, 1) := by decide +kernel
theorem dX11_operand_51 : decode cX11_operand 51 = .ok (.goto 4, 3) := by decide +kernel
theorem dX11_operand_54 : decode cX11_operand 54 = .ok (.iconst 0, 1) := by decide +kernel
theorem dX11_operand_55 : decode cX11_operand 55 = .ok (.istore 4, 2) := by decide +kernel
theorem dX11_operand_57 : decode cX11_operand 57 = .ok (.iload 4, 2) := by decide +kernel
theorem dX11_operand_59 : decode cX11_operand 59 = .ok (.ifCond .eq 29, 3) := by decide +kernel
theorem dX11_operand_62 : decode cX11_operand 62 = .ok (.iload_n 1, 1) := by decide +kernel
theorem dX11_operand_63 : decode cX11_operand 63 = .ok (.ifCond .ne 12, 3) := by decide +kernel
theorem dX11_operand_66 : decode cX11_operand 66 = .ok (.aload_n 0, 1) := by decide +kernel
theorem dX11_operand_67 : decode cX11_operand 67 = .ok (.getfield 212, 3) := by decide +kernel
theorem dX11_operand_70 : decode cX11_operand 70 = .ok (.bipush 6, 2) := by decide +kernel
theorem dX11_operand_72 : decode cX11_operand 72 = .ok (.if_icmp .ge 16, 3) := by decide +kernel
theorem dX11_operand_75 : decode cX11_operand 75 = .ok (.iload_n 3, 1) := by decide +kernel
theorem dX11_operand_76 : decode cX11_operand 76 = .ok (.ifCond .eq 17, 3) := by decide +kernel
theorem dX11_operand_79 : decode cX11_operand 79 = .ok (.aload_n 0, 1) := by decide +kernel
theorem dX11_operand_80 : decode cX11_operand 80 = .ok (.getfield 245, 3) := by decide +kernel
theorem dX11_operand_83 : decode cX11_operand 83 = .ok (.bipush 60, 2) := by decide +kernel
theorem dX11_operand_85 : decode cX11_operand 85 = .ok (.if_icmp .ne 8, 3) := by decide +kernel
theorem dX11_operand_88 : decode cX11_operand 88 = .ok (.aload_n 0, 1) := by decide +kernel
theorem dX11_operand_89 : decode cX11_operand 89 = .ok (.iconst 2, 1) := by decide +kernel
theorem dX11_operand_90 : decode cX11_operand 90 = .ok (.invokevirtual 203, 3) := by decide +kernel
theorem dX11_operand_93 : decode cX11_operand 93 = .ok (.aload_n 0, 1) := by decide +kernel
theorem dX11_operand_94 : decode cX11_operand 94 = .ok (.getfield 187, 3) := by decide +kernel
theorem dX11_operand_97 : decode cX11_operand 97 = .ok (.ifCond .le 5, 3) := by decide +kernel
theorem dX11_operand_100 : decode cX11_operand 100 = .ok (.iload_n 1, 1) := by decide +kernel
theorem dX11_operand_101 : decode cX11_operand 101 = .ok (.ireturn, 1) := by decide +kernel
theorem dX11_operand_102 : decode cX11_operand 102 = .ok (.iload_n 3, 1) := by decide +kernel
theorem dX11_operand_103 : decode cX11_operand 103 = .ok (.ifCond .ne 29, 3) := by decide +kernel
theorem dX11_operand_106 : decode cX11_operand 106 = .ok (.aload_n 0, 1) := by decide +kernel
theorem dX11_operand_107 : decode cX11_operand 107 = .ok (.aload_n 0, 1) := by decide +kernel
theorem dX11_operand_108 : decode cX11_operand 108 = .ok (.getfield 174, 3) := by decide +kernel
theorem dX11_operand_111 : decode cX11_operand 111 = .ok (.bipush 40, 2) := by decide +kernel
theorem dX11_operand_113 : decode cX11_operand 113 = .ok (.if_icmp .ne 8, 3) := by decide +kernel
theorem dX11_operand_116 : decode cX11_operand 116 = .ok (.bipush 28, 2) := by decide +kernel
theorem dX11_operand_118 : decode cX11_operand 118 = .ok (.goto 5, 3) := by decide +kernel
theorem dX11_operand_121 : decode cX11_operand 121 = .ok (.bipush 20, 2) := by decide +kernel
theorem dX11_operand_123 : decode cX11_operand 123 = .ok (.invokevirtual 248, 3) := by decide +kernel
theorem dX11_operand_126 : decode cX11_operand 126 = .ok (.aload_n 0, 1) := by decide +kernel
theorem dX11_operand_127 : decode cX11_operand 127 = .ok (.invokevirtual 206, 3) := by decide +kernel
theorem dX11_operand_130 : decode cX11_operand 130 = .ok (.iconst 0, 1) := by decide +kernel
theorem dX11_operand_131 : decode cX11_operand 131 = .ok (.ireturn, 1) := by decide +kernel
theorem dX11_operand_132 : decode cX11_operand 132 = .ok (.aload_n 0, 1) := by decide +kernel
theorem dX11_operand_133 : decode cX11_operand 133 = .ok (.iload_n 2, 1) := by decide +kernel
theorem dX11_operand_134 : decode cX11_operand 134 = .ok (.ifCond .lt 10, 3) := by decide +kernel
theorem dX11_operand_137 : decode cX11_operand 137 = .ok (.bipush 10, 2) := by decide +kernel
theorem dX11_operand_139 : decode cX11_operand 139 = .ok (.iload_n 2, 1) := by decide +kernel
theorem dX11_operand_140 : decode cX11_operand 140 = .ok (.iadd, 1) := by decide +kernel
theorem dX11_operand_141 : decode cX11_operand 141 = .ok (.goto 4, 3) := by decide +kernel
theorem dX11_operand_144 : decode cX11_operand 144 = .ok (.iconst 0, 1) := by decide +kernel
theorem dX11_operand_145 : decode cX11_operand 145 = .ok (.aload_n 0, 1) := by decide +kernel
theorem dX11_operand_146 : decode cX11_operand 146 = .ok (.getfield 171, 3) := by decide +kernel
theorem dX11_operand_149 : decode cX11_operand 149 = .ok (.invokevirtual 215, 3) := by decide +kernel
theorem dX11_operand_152 : decode cX11_operand 152 = .ok (.aload_n 0, 1) := by decide +kernel
theorem dX11_operand_153 : decode cX11_operand 153 = .ok (.dup, 1) := by decide +kernel
theorem dX11_operand_154 : decode cX11_operand 154 = .ok (.getfield 245, 3) := by decide +kernel
theorem dX11_operand_157 : decode cX11_operand 157 = .ok (.iconst 1, 1) := by decide +kernel
theorem dX11_operand_158 : decode cX11_operand 158 = .ok (.iadd, 1) := by decide +kernel
theorem dX11_operand_159 : decode cX11_operand 159 = .ok (.putfield 245, 3) := by decide +kernel
theorem dX11_operand_162 : decode cX11_operand 162 = .ok (.aload_n 0, 1) := by decide +kernel
theorem dX11_operand_163 : decode cX11_operand 163 = .ok (.invokevirtual 206, 3) := by decide +kernel
theorem dX11_operand_166 : decode cX11_operand 166 = .ok (.iload_n 1, 1) := by decide +kernel
theorem dX11_operand_167 : decode cX11_operand 167 = .ok (.iconst 2, 1) := by decide +kernel
theorem dX11_operand_168 : decode cX11_operand 168 = .ok (.if_icmp .ne 7, 3) := by decide +kernel
theorem dX11_operand_171 : decode cX11_operand 171 = .ok (.iconst 4, 1) := by decide +kernel
theorem dX11_operand_172 : decode cX11_operand 172 = .ok (.goto 4, 3) := by decide +kernel
theorem dX11_operand_175 : decode cX11_operand 175 = .ok (.iconst 3, 1) := by decide +kernel
theorem dX11_operand_176 : decode cX11_operand 176 = .ok (.ireturn, 1) := by decide +kernel
theorem dX11_sign_0 : decode cX11_sign 0 = .ok (.iload_n 1, 1) := by decide +kernel
theorem dX11_sign_1 : decode cX11_sign 1 = .ok (.iconst 5, 1) := by decide +kernel
theorem dX11_sign_2 : decode cX11_sign 2 = .ok (.if_icmp .eq 62, 3) := by decide +kernel
theorem dX11_sign_5 : decode cX11_sign 5 = .ok (.aload_n 0, 1) := by decide +kernel
theorem dX11_sign_6 : decode cX11_sign 6 = .ok (.getfield 174, 3) := by decide +kernel
theorem dX11_sign_9 : decode cX11_sign 9 = .ok (.bipush 43, 2) := by decide +kernel
theorem dX11_sign_11 : decode cX11_sign 11 = .ok (.if_icmp .eq 12, 3) := by decide +kernel
theorem dX11_sign_14 : decode cX11_sign 14 = .ok (.aload_n 0, 1) := by decide +kernel
theorem dX11_sign_15 : decode cX11_sign 15 = .ok (.getfield 174, 3) := by decide +kernel
theorem dX11_sign_18 : decode cX11_sign 18 = .ok (.bipush 45, 2) := by decide +kernel
theorem dX11_sign_20 : decode cX11_sign 20 = .ok (.if_icmp .ne 44, 3) := by decide +kernel
theorem dX11_sign_23 : decode cX11_sign 23 = .ok (.aload_n 0, 1) := by decide +kernel
theorem dX11_sign_24 : decode cX11_sign 24 = .ok (.bipush 26, 2) := by decide +kernel
theorem dX11_sign_26 : decode cX11_sign 26 = .ok (.invokevirtual 232, 3) := by decide +kernel
theorem dX11_sign_29 : decode cX11_sign 29 = .ok (.aload_n 0, 1) := by decide +kernel
theorem dX11_sign_30 : decode cX11_sign 30 = .ok (.aload_n 0, 1) := by decide +kernel
theorem dX11_sign_31 : decode cX11_sign 31 = .ok (.getfield 174, 3) := by decide +kernel
theorem dX11_sign_34 : decode cX11_sign 34 = .ok (.bipush 43, 2) := by decide +kernel
theorem dX11_sign_36 : decode cX11_sign 36 = .ok (.if_icmp .ne 8, 3) := by decide +kernel
theorem dX11_sign_39 : decode cX11_sign 39 = .ok (.bipush 26, 2) := by decide +kernel
theorem dX11_sign_41 : decode cX11_sign 41 = .ok (.goto 5, 3) := by decide +kernel
theorem dX11_sign_44 : decode cX11_sign 44 = .ok (.bipush 27, 2) := by decide +kernel
theorem dX11_sign_46 : decode cX11_sign 46 = .ok (.invokevirtual 248, 3) := by decide +kernel
theorem dX11_sign_49 : decode cX11_sign 49 = .ok (.aload_n 0, 1) := by decide +kernel
theorem dX11_sign_50 : decode cX11_sign 50 = .ok (.invokevirtual 206, 3) := by decide +kernel
theorem dX11_sign_53 : decode cX11_sign 53 = .ok (.iload_n 1, 1) := by decide +kernel
theorem dX11_sign_54 : decode cX11_sign 54 = .ok (.iconst 3, 1) := by decide +kernel
theorem dX11_sign_55 : decode cX11_sign 55 = .ok (.if_icmp .ne 7, 3) := by decide +kernel
theorem dX11_sign_58 : decode cX11_sign 58 = .ok (.iconst 1, 1) := by decide +kernel
theorem dX11_sign_59 : decode cX11_sign 59 = .ok (.goto 4, 3) := by decide +kernel
theorem dX11_sign_62 : decode cX11_sign 62 = .ok (.iconst 2, 1) := by decide +kernel
theorem dX11_sign_63 : decode cX11_sign 63 = .ok (.ireturn, 1) := by decide +kernel
theorem dX11_sign_64 : decode cX11_sign 64 = .ok (.iload_n 1, 1) := by decide +kernel
theorem dX11_sign_65 : decode cX11_sign 65 = .ok (.iconst 3, 1) := by decide +kernel
theorem dX11_sign_66 : decode cX11_sign 66 = .ok (.if_icmp .ne 76, 3) := by decide +kernel
theorem dX11_sign_69 : decode cX11_sign 69 = .ok (.aload_n 0, 1) := by decide +kernel
theorem dX11_sign_70 : decode cX11_sign 70 = .ok (.getfield 174, 3) := by decide +kernel
theorem dX11_sign_73 : decode cX11_sign 73 = .ok (.bipush 61, 2) := by decide +kernel
theorem dX11_sign_75 : decode cX11_sign 75 = .ok (.if_icmp .eq 21, 3) := by decide +kernel
theorem dX11_sign_78 : decode cX11_sign 78 = .ok (.aload_n 0, 1) := by decide +kernel
theorem dX11_sign_79 : decode cX11_sign 79 = .ok (.getfield 174, 3) := by decide +kernel
theorem dX11_sign_82 : decode cX11_sign 82 = .ok (.bipush 60, 2) := by decide +kernel
theorem dX11_sign_84 : decode cX11_sign 84 = .ok (.if_icmp .eq 12, 3) := by decide +kernel
theorem dX11_sign_87 : decode cX11_sign 87 = .ok (.aload_n 0, 1) := by decide +kernel
theorem dX11_sign_88 : decode cX11_sign 88 = .ok (.getfield 174, 3) := by decide +kernel
theorem dX11_sign_91 : decode cX11_sign 91 = .ok (.bipush 62, 2) := by decide +kernel
theorem dX11_sign_93 : decode cX11_sign 93 = .ok (.if_icmp .ne 49, 3) := by decide +kernel
theorem dX11_sign_96 : decode cX11_sign 96 = .ok (.aload_n 0, 1) := by decide +kernel
theorem dX11_sign_97 : decode cX11_sign 97 = .ok (.bipush 26, 2) := by decide +kernel
theorem dX11_sign_99 : decode cX11_sign 99 = .ok (.invokevirtual 232, 3) := by decide +kernel
theorem dX11_sign_102 : decode cX11_sign 102 = .ok (.aload_n 0, 1) := by decide +kernel
theorem dX11_sign_103 : decode cX11_sign 103 = .ok (.aload_n 0, 1) := by decide +kernel
theorem dX11_sign_104 : decode cX11_sign 104 = .ok (.getfield 174, 3) := by decide +kernel
theorem dX11_sign_107 : decode cX11_sign 107 = .ok (.bipush 61, 2) := by decide +kernel
theorem dX11_sign_109 : decode cX11_sign 109 = .ok (.if_icmp .ne 8, 3) := by decide +kernel
theorem dX11_sign_112 : decode cX11_sign 112 = .ok (.bipush 23, 2) := by decide +kernel
theorem dX11_sign_114 : decode cX11_sign 114 = .ok (.goto 19, 3) := by decide +kernel
theorem dX11_sign_117 : decode cX11_sign 117 = .ok (.aload_n 0, 1) := by decide +kernel
theorem dX11_sign_118 : decode cX11_sign 118 = .ok (.getfield 174, 3) := by decide +kernel
theorem dX11_sign_121 : decode cX11_sign 121 = .ok (.bipush 60, 2) := by decide +kernel
theorem dX11_sign_123 : decode cX11_sign 123 = .ok (.if_icmp .ne 8, 3) := by decide +kernel
theorem dX11_sign_126 : decode cX11_sign 126 = .ok (.bipush 24, 2) := by decide +kernel
theorem dX11_sign_128 : decode cX11_sign 128 = .ok (.goto 5, 3) := by decide +kernel
theorem dX11_sign_131 : decode cX11_sign 131 = .ok (.bipush 25, 2) := by decide +kernel
theorem dX11_sign_133 : decode cX11_sign 133 = .ok (.invokevirtual 248, 3) := by decide +kernel
theorem dX11_sign_136 : decode cX11_sign 136 = .ok (.aload_n 0, 1) := by decide +kernel
theorem dX11_sign_137 : decode cX11_sign 137 = .ok (.invokevirtual 206, 3) := by decide +kernel
theorem dX11_sign_140 : decode cX11_sign 140 = .ok (.iconst 2, 1) := by decide +kernel
theorem dX11_sign_141 : decode cX11_sign 141 = .ok (.ireturn, 1) := by decide +kernel
theorem dX11_sign_142 : decode cX11_sign 142 = .ok (.iload_n 1, 1) := by decide +kernel
theorem dX11_sign_143 : decode cX11_sign 143 = .ok (.iconst 3, 1) := by decide +kernel
theorem dX11_sign_144 : decode cX11_sign 144 = .ok (.if_icmp .eq 57, 3) := by decide +kernel
theorem dX11_sign_147 : decode cX11_sign 147 = .ok (.aload_n 0, 1) := by decide +kernel
theorem dX11_sign_148 : decode cX11_sign 148 = .ok (.ldc2_w 251, 3) := by decide +kernel
theorem dX11_sign_151 : decode cX11_sign 151 = .ok (.invokevirtual 241, 3) := by decide +kernel
theorem dX11_sign_154 : decode cX11_sign 154 = .ok (.ifCond .ne 13, 3) := by decide +kernel
theorem dX11_sign_157 : decode cX11_sign 157 = .ok (.aload_n 0, 1) := by decide +kernel
theorem dX11_sign_158 : decode cX11_sign 158 = .ok (.ldc2_w 253, 3) := by decide +kernel
theorem dX11_sign_161 : decode cX11_sign 161 = .ok (.invokevirtual 241, 3) := by decide +kernel
theorem dX11_sign_164 : decode cX11_sign 164 = .ok (.ifCond .eq 37, 3) := by decide +kernel
theorem dX11_sign_167 : decode cX11_sign 167 = .ok (.aload_n 0, 1) := by decide +kernel
theorem dX11_sign_168 : decode cX11_sign 168 = .ok (.ldc2_w 251, 3) := by decide +kernel
theorem dX11_sign_171 : decode cX11_sign 171 = .ok (.invokevirtual 241, 3) := by decide +kernel
theorem dX11_sign_174 : decode cX11_sign 174 = .ok (.istore_n 2, 1) := by decide +kernel
theorem dX11_sign_175 : decode cX11_sign 175 = .ok (.aload_n 0, 1) := by decide +kernel
theorem dX11_sign_176 : decode cX11_sign 176 = .ok (.iload_n 2, 1) := by decide +kernel
theorem dX11_sign_177 : decode cX11_sign 177 = .ok (.invokevirtual 255, 3) := by decide +kernel
theorem dX11_sign_180 : decode cX11_sign 180 = .ok (.aload_n 0, 1) := by decide +kernel
theorem dX11_sign_181 : decode cX11_sign 181 = .ok (.iload_n 2, 1) := by decide +kernel
theorem dX11_sign_182 : decode cX11_sign 182 = .ok (.ifCond .eq 8, 3) := by decide +kernel
theorem dX11_sign_185 : decode cX11_sign 185 = .ok (.bipush 22, 2) := by decide +kernel
theorem dX11_sign_187 : decode cX11_sign 187 = .ok (.goto 5, 3) := by decide +kernel
theorem dX11_sign_190 : decode cX11_sign 190 = .ok (.bipush 21, 2) := by decide +kernel
theorem dX11_sign_192 : decode cX11_sign 192 = .ok (.invokevirtual 248, 3) := by decide +kernel
theorem dX11_sign_195 : decode cX11_sign 195 = .ok (.aload_n 0, 1) := by decide +kernel
theorem dX11_sign_196 : decode cX11_sign 196 = .ok (.invokevirtual 206, 3) := by decide +kernel
theorem dX11_sign_199 : decode cX11_sign 199 = .ok (.iconst 0, 1) := by decide +kernel
theorem dX11_sign_200 : decode cX11_sign 200 = .ok (.ireturn, 1) := by decide +kernel
theorem dX11_sign_201 : decode cX11_sign 201 = .ok (.iload_n 1, 1) := by decide +kernel
theorem dX11_sign_202 : decode cX11_sign 202 = .ok (.iconst 3, 1) := by decide +kernel
theorem dX11_sign_203 : decode cX11_sign 203 = .ok (.if_icmp .eq 50, 3) := by decide +kernel
theorem dX11_sign_206 : decode cX11_sign 206 = .ok (.aload_n 0, 1) := by decide +kernel
theorem dX11_sign_207 : decode cX11_sign 207 = .ok (.getfield 174, 3) := by decide +kernel
theorem dX11_sign_210 : decode cX11_sign 210 = .ok (.bipush 41, 2) := by decide +kernel
theorem dX11_sign_212 : decode cX11_sign 212 = .ok (.if_icmp .ne 41, 3) := by decide +kernel
theorem dX11_sign_215 : decode cX11_sign 215 = .ok (.aload_n 0, 1) := by decide +kernel
theorem dX11_sign_216 : decode cX11_sign 216 = .ok (.invokevirtual 222, 3) := by decide +kernel
theorem dX11_sign_219 : decode cX11_sign 219 = .ok (.ifCond .eq 34, 3) := by decide +kernel
theorem dX11_sign_222 : decode cX11_sign 222 = .ok (.aload_n 0, 1) := by decide +kernel
theorem dX11_sign_223 : decode cX11_sign 223 = .ok (.iconst 0, 1) := by decide +kernel
theorem dX11_sign_224 : decode cX11_sign 224 = .ok (.invokevirtual 232, 3) := by decide +kernel
theorem dX11_sign_227 : decode cX11_sign 227 = .ok (.aload_n 0, 1) := by decide +kernel
theorem dX11_sign_228 : decode cX11_sign 228 = .ok (.dup, 1) := by decide +kernel
theorem dX11_sign_229 : decode cX11_sign 229 = .ok (.getfield 209, 3) := by decide +kernel
theorem dX11_sign_232 : decode cX11_sign 232 = .ok (.iconst 1, 1) := by decide +kernel
theorem dX11_sign_233 : decode cX11_sign 233 = .ok (.isub, 1) := by decide +kernel
theorem dX11_sign_234 : decode cX11_sign 234 = .ok (.putfield 209, 3) := by decide +kernel
theorem dX11_sign_237 : decode cX11_sign 237 = .ok (.aload_n 0, 1) := by decide +kernel
theorem dX11_sign_238 : decode cX11_sign 238 = .ok (.dup, 1) := by decide +kernel
