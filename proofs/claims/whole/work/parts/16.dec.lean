theorem dX10_init_0 : decode cX10_init 0 = .ok (.aload_n 0, 1) := by decide +kernel
theorem dX10_init_1 : decode cX10_init 1 = .ok (.invokespecial 1, 3) := by decide +kernel
theorem dX10_init_4 : decode cX10_init 4 = .ok (.aload_n 0, 1) := by decide +kernel
theorem dX10_init_5 : decode cX10_init 5 = .ok (.bipush 12, 2) := by decide +kernel
theorem dX10_init_7 : decode cX10_init 7 = .ok (.newarray .int, 2) := by decide +kernel
theorem dX10_init_9 : decode cX10_init 9 = .ok (.putfield 7, 3) := by decide +kernel
theorem dX10_init_12 : decode cX10_init 12 = .ok (.aload_n 0, 1) := by decide +kernel
theorem dX10_init_13 : decode cX10_init 13 = .ok (.bipush 48, 2) := by decide +kernel
theorem dX10_init_15 : decode cX10_init 15 = .ok (.newarray .int, 2) := by decide +kernel
theorem dX10_init_17 : decode cX10_init 17 = .ok (.putfield 13, 3) := by decide +kernel
theorem dX10_init_20 : decode cX10_init 20 = .ok (.aload_n 0, 1) := by decide +kernel
theorem dX10_init_21 : decode cX10_init 21 = .ok (.bipush 48, 2) := by decide +kernel
theorem dX10_init_23 : decode cX10_init 23 = .ok (.newarray .int, 2) := by decide +kernel
theorem dX10_init_25 : decode cX10_init 25 = .ok (.putfield 16, 3) := by decide +kernel
theorem dX10_init_28 : decode cX10_init 28 = .ok (.aload_n 0, 1) := by decide +kernel
theorem dX10_init_29 : decode cX10_init 29 = .ok (.bipush 48, 2) := by decide +kernel
theorem dX10_init_31 : decode cX10_init 31 = .ok (.newarray .int, 2) := by decide +kernel
theorem dX10_init_33 : decode cX10_init 33 = .ok (.putfield 19, 3) := by decide +kernel
theorem dX10_init_36 : decode cX10_init 36 = .ok (.aload_n 0, 1) := by decide +kernel
theorem dX10_init_37 : decode cX10_init 37 = .ok (.bipush 48, 2) := by decide +kernel
theorem dX10_init_39 : decode cX10_init 39 = .ok (.newarray .int, 2) := by decide +kernel
theorem dX10_init_41 : decode cX10_init 41 = .ok (.putfield 22, 3) := by decide +kernel
theorem dX10_init_44 : decode cX10_init 44 = .ok (.aload_n 0, 1) := by decide +kernel
theorem dX10_init_45 : decode cX10_init 45 = .ok (.iconst 3, 1) := by decide +kernel
theorem dX10_init_46 : decode cX10_init 46 = .ok (.newarray .int, 2) := by decide +kernel
theorem dX10_init_48 : decode cX10_init 48 = .ok (.putfield 25, 3) := by decide +kernel
theorem dX10_init_51 : decode cX10_init 51 = .ok (.aload_n 0, 1) := by decide +kernel
theorem dX10_init_52 : decode cX10_init 52 = .ok (.bipush 120, 2) := by decide +kernel
theorem dX10_init_54 : decode cX10_init 54 = .ok (.newarray .int, 2) := by decide +kernel
theorem dX10_init_56 : decode cX10_init 56 = .ok (.putfield 28, 3) := by decide +kernel
theorem dX10_init_59 : decode cX10_init 59 = .ok (.aload_n 0, 1) := by decide +kernel
theorem dX10_init_60 : decode cX10_init 60 = .ok (.bipush 120, 2) := by decide +kernel
theorem dX10_init_62 : decode cX10_init 62 = .ok (.newarray .int, 2) := by decide +kernel
theorem dX10_init_64 : decode cX10_init 64 = .ok (.putfield 31, 3) := by decide +kernel
theorem dX10_init_67 : decode cX10_init 67 = .ok (.aload_n 0, 1) := by decide +kernel
theorem dX10_init_68 : decode cX10_init 68 = .ok (.bipush 120, 2) := by decide +kernel
theorem dX10_init_70 : decode cX10_init 70 = .ok (.newarray .int, 2) := by decide +kernel
theorem dX10_init_72 : decode cX10_init 72 = .ok (.putfield 34, 3) := by decide +kernel
theorem dX10_init_75 : decode cX10_init 75 = .ok (.aload_n 0, 1) := by decide +kernel
theorem dX10_init_76 : decode cX10_init 76 = .ok (.sipush 720, 3) := by decide +kernel
theorem dX10_init_79 : decode cX10_init 79 = .ok (.newarray .int, 2) := by decide +kernel
theorem dX10_init_81 : decode cX10_init 81 = .ok (.putfield 37, 3) := by decide +kernel
theorem dX10_init_84 : decode cX10_init 84 = .ok (.aload_n 0, 1) := by decide +kernel
theorem dX10_init_85 : decode cX10_init 85 = .ok (.iconst 3, 1) := by decide +kernel
theorem dX10_init_86 : decode cX10_init 86 = .ok (.newarray .int, 2) := by decide +kernel
theorem dX10_init_88 : decode cX10_init 88 = .ok (.putfield 40, 3) := by decide +kernel
theorem dX10_init_91 : decode cX10_init 91 = .ok (.aload_n 0, 1) := by decide +kernel
theorem dX10_init_92 : decode cX10_init 92 = .ok (.iconst 3, 1) := by decide +kernel
theorem dX10_init_93 : decode cX10_init 93 = .ok (.newarray .int, 2) := by decide +kernel
theorem dX10_init_95 : decode cX10_init 95 = .ok (.putfield 43, 3) := by decide +kernel
theorem dX10_init_98 : decode cX10_init 98 = .ok (.aload_n 0, 1) := by decide +kernel
theorem dX10_init_99 : decode cX10_init 99 = .ok (.iconst 3, 1) := by decide +kernel
theorem dX10_init_100 : decode cX10_init 100 = .ok (.newarray .int, 2) := by decide +kernel
theorem dX10_init_102 : decode cX10_init 102 = .ok (.putfield 46, 3) := by decide +kernel
theorem dX10_init_105 : decode cX10_init 105 = .ok (.aload_n 0, 1) := by decide +kernel
theorem dX10_init_106 : decode cX10_init 106 = .ok (.bipush 90, 2) := by decide +kernel
theorem dX10_init_108 : decode cX10_init 108 = .ok (.newarray .int, 2) := by decide +kernel
theorem dX10_init_110 : decode cX10_init 110 = .ok (.putfield 49, 3) := by decide +kernel
theorem dX10_init_113 : decode cX10_init 113 = .ok (.aload_n 0, 1) := by decide +kernel
theorem dX10_init_114 : decode cX10_init 114 = .ok (.bipush 60, 2) := by decide +kernel
theorem dX10_init_116 : decode cX10_init 116 = .ok (.newarray .int, 2) := by decide +kernel
theorem dX10_init_118 : decode cX10_init 118 = .ok (.putfield 52, 3) := by decide +kernel
theorem dX10_init_121 : decode cX10_init 121 = .ok (.aload_n 0, 1) := by decide +kernel
theorem dX10_init_122 : decode cX10_init 122 = .ok (.bipush 6, 2) := by decide +kernel
theorem dX10_init_124 : decode cX10_init 124 = .ok (.newarray .int, 2) := by decide +kernel
theorem dX10_init_126 : decode cX10_init 126 = .ok (.putfield 55, 3) := by decide +kernel
theorem dX10_init_129 : decode cX10_init 129 = .ok (.aload_n 0, 1) := by decide +kernel
theorem dX10_init_130 : decode cX10_init 130 = .ok (.sipush 600, 3) := by decide +kernel
theorem dX10_init_133 : decode cX10_init 133 = .ok (.newarray .int, 2) := by decide +kernel
theorem dX10_init_135 : decode cX10_init 135 = .ok (.putfield 58, 3) := by decide +kernel
theorem dX10_init_138 : decode cX10_init 138 = .ok (.aload_n 0, 1) := by decide +kernel
theorem dX10_init_139 : decode cX10_init 139 = .ok (.bipush 40, 2) := by decide +kernel
theorem dX10_init_141 : decode cX10_init 141 = .ok (.newarray .int, 2) := by decide +kernel
theorem dX10_init_143 : decode cX10_init 143 = .ok (.putfield 61, 3) := by decide +kernel
theorem dX10_init_146 : decode cX10_init 146 = .ok (.aload_n 0, 1) := by decide +kernel
theorem dX10_init_147 : decode cX10_init 147 = .ok (.bipush 40, 2) := by decide +kernel
theorem dX10_init_149 : decode cX10_init 149 = .ok (.newarray .int, 2) := by decide +kernel
theorem dX10_init_151 : decode cX10_init 151 = .ok (.putfield 64, 3) := by decide +kernel
theorem dX10_init_154 : decode cX10_init 154 = .ok (.aload_n 0, 1) := by decide +kernel
theorem dX10_init_155 : decode cX10_init 155 = .ok (.iconst (-1), 1) := by decide +kernel
theorem dX10_init_156 : decode cX10_init 156 = .ok (.putfield 67, 3) := by decide +kernel
theorem dX10_init_159 : decode cX10_init 159 = .ok (.aload_n 0, 1) := by decide +kernel
theorem dX10_init_160 : decode cX10_init 160 = .ok (.sipush 1024, 3) := by decide +kernel
theorem dX10_init_163 : decode cX10_init 163 = .ok (.newarray .int, 2) := by decide +kernel
theorem dX10_init_165 : decode cX10_init 165 = .ok (.putfield 71, 3) := by decide +kernel
theorem dX10_init_168 : decode cX10_init 168 = .ok (.aload_n 0, 1) := by decide +kernel
theorem dX10_init_169 : decode cX10_init 169 = .ok (.sipush 1024, 3) := by decide +kernel
theorem dX10_init_172 : decode cX10_init 172 = .ok (.newarray .int, 2) := by decide +kernel
theorem dX10_init_174 : decode cX10_init 174 = .ok (.putfield 74, 3) := by decide +kernel
theorem dX10_init_177 : decode cX10_init 177 = .ok (.aload_n 0, 1) := by decide +kernel
theorem dX10_init_178 : decode cX10_init 178 = .ok (.sipush 1024, 3) := by decide +kernel
theorem dX10_init_181 : decode cX10_init 181 = .ok (.newarray .int, 2) := by decide +kernel
theorem dX10_init_183 : decode cX10_init 183 = .ok (.putfield 77, 3) := by decide +kernel
theorem dX10_init_186 : decode cX10_init 186 = .ok (.aload_n 0, 1) := by decide +kernel
theorem dX10_init_187 : decode cX10_init 187 = .ok (.sipush 1024, 3) := by decide +kernel
theorem dX10_init_190 : decode cX10_init 190 = .ok (.newarray .boolean, 2) := by decide +kernel
theorem dX10_init_192 : decode cX10_init 192 = .ok (.putfield 80, 3) := by decide +kernel
theorem dX10_init_195 : decode cX10_init 195 = .ok (.aload_n 0, 1) := by decide +kernel
theorem dX10_init_196 : decode cX10_init 196 = .ok (.sipush 1024, 3) := by decide +kernel
theorem dX10_init_199 : decode cX10_init 199 = .ok (.newarray .int, 2) := by decide +kernel
theorem dX10_init_201 : decode cX10_init 201 = .ok (.putfield 84, 3) := by decide +kernel
theorem dX10_init_204 : decode cX10_init 204 = .ok (.aload_n 0, 1) := by decide +kernel
theorem dX10_init_205 : decode cX10_init 205 = .ok (.sipush 1024, 3) := by decide +kernel
theorem dX10_init_208 : decode cX10_init 208 = .ok (.newarray .int, 2) := by decide +kernel
theorem dX10_init_210 : decode cX10_init 210 = .ok (.putfield 87, 3) := by decide +kernel
theorem dX10_init_213 : decode cX10_init 213 = .ok (.aload_n 0, 1) := by decide +kernel
theorem dX10_init_214 : decode cX10_init 214 = .ok (.ldc 90, 2) := by decide +kernel
theorem dX10_init_216 : decode cX10_init 216 = .ok (.newarray .int, 2) := by decide +kernel
theorem dX10_init_218 : decode cX10_init 218 = .ok (.putfield 91, 3) := by decide +kernel
theorem dX10_init_221 : decode cX10_init 221 = .ok (.aload_n 0, 1) := by decide +kernel
theorem dX10_init_222 : decode cX10_init 222 = .ok (.sipush 1024, 3) := by decide +kernel
theorem dX10_init_225 : decode cX10_init 225 = .ok (.newarray .int, 2) := by decide +kernel
theorem dX10_init_227 : decode cX10_init 227 = .ok (.putfield 94, 3) := by decide +kernel
theorem dX10_init_230 : decode cX10_init 230 = .ok (.aload_n 0, 1) := by decide +kernel
theorem dX10_init_231 : decode cX10_init 231 = .ok (.sipush 1024, 3) := by decide +kernel
theorem dX10_init_234 : decode cX10_init 234 = .ok (.newarray .int, 2) := by decide +kernel
theorem dX10_init_236 : decode cX10_init 236 = .ok (.putfield 97, 3) := by decide +kernel
theorem dX10_init_239 : decode cX10_init 239 = .ok (.aload_n 0, 1) := by decide +kernel
theorem dX10_init_240 : decode cX10_init 240 = .ok (.ldc 90, 2) := by decide +kernel
theorem dX10_init_242 : decode cX10_init 242 = .ok (.newarray .int, 2) := by decide +kernel
theorem dX10_init_244 : decode cX10_init 244 = .ok (.putfield 100, 3) := by decide +kernel
theorem dX10_init_247 : decode cX10_init 247 = .ok (.aload_n 0, 1) := by decide +kernel
theorem dX10_init_248 : decode cX10_init 248 = .ok (.sipush 1024, 3) := by decide +kernel
theorem dX10_init_251 : decode cX10_init 251 = .ok (.newarray .int, 2) := by decide +kernel
theorem dX10_init_253 : decode cX10_init 253 = .ok (.putfield 103, 3) := by decide +kernel
theorem dX10_init_256 : decode cX10_init 256 = .ok (.aload_n 0, 1) := by decide +kernel
theorem dX10_init_257 : decode cX10_init 257 = .ok (.sipush 1024, 3) := by decide +kernel
theorem dX10_init_260 : decode cX10_init 260 = .ok (.newarray .boolean, 2) := by decide +kernel
theorem dX10_init_262 : decode cX10_init 262 = .ok (.putfield 106, 3) := by decide +kernel
theorem dX10_init_265 : decode cX10_init 265 = .ok (.aload_n 0, 1) := by decide +kernel
theorem dX10_init_266 : decode cX10_init 266 = .ok (.iconst (-1), 1) := by decide +kernel
theorem dX10_init_267 : decode cX10_init 267 = .ok (.putfield 109, 3) := by decide +kernel
theorem dX10_init_270 : decode cX10_init 270 = .ok (.aload_n 0, 1) := by decide +kernel
theorem dX10_init_271 : decode cX10_init 271 = .ok (.iconst (-1), 1) := by decide +kernel
theorem dX10_init_272 : decode cX10_init 272 = .ok (.putfield 112, 3) := by decide +kernel
theorem dX10_init_275 : decode cX10_init 275 = .ok (.aload_n 0, 1) := by decide +kernel
theorem dX10_init_276 : decode cX10_init 276 = .ok (.iconst (-1), 1) := by decide +kernel
theorem dX10_init_277 : decode cX10_init 277 = .ok (.putfield 115, 3) := by decide +kernel
theorem dX10_init_280 : decode cX10_init 280 = .ok (.aload_n 0, 1) := by decide +kernel
theorem dX10_init_281 : decode cX10_init 281 = .ok (.sipush 700, 3) := by decide +kernel
theorem dX10_init_284 : decode cX10_init 284 = .ok (.newarray .int, 2) := by decide +kernel
theorem dX10_init_286 : decode cX10_init 286 = .ok (.putfield 118, 3) := by decide +kernel
theorem dX10_init_289 : decode cX10_init 289 = .ok (.aload_n 0, 1) := by decide +kernel
theorem dX10_init_290 : decode cX10_init 290 = .ok (.sipush 700, 3) := by decide +kernel
theorem dX10_init_293 : decode cX10_init 293 = .ok (.newarray .int, 2) := by decide +kernel
theorem dX10_init_295 : decode cX10_init 295 = .ok (.putfield 121, 3) := by decide +kernel
theorem dX10_init_298 : decode cX10_init 298 = .ok (.aload_n 0, 1) := by decide +kernel
theorem dX10_init_299 : decode cX10_init 299 = .ok (.sipush 700, 3) := by decide +kernel
theorem dX10_init_302 : decode cX10_init 302 = .ok (.newarray .int, 2) := by decide +kernel
theorem dX10_init_304 : decode cX10_init 304 = .ok (.putfield 124, 3) := by decide +kernel
theorem dX10_init_307 : decode cX10_init 307 = .ok (.iconst 0, 1) := by decide +kernel
theorem dX10_init_308 : decode cX10_init 308 = .ok (.istore_n 1, 1) := by decide +kernel
theorem dX10_init_309 : decode cX10_init 309 = .ok (.iload_n 1, 1) := by decide +kernel
theorem dX10_init_310 : decode cX10_init 310 = .ok (.iconst 3, 1) := by decide +kernel
theorem dX10_init_311 : decode cX10_init 311 = .ok (.if_icmp .ge 14, 3) := by decide +kernel
theorem dX10_init_314 : decode cX10_init 314 = .ok (.aload_n 0, 1) := by decide +kernel
theorem dX10_init_315 : decode cX10_init 315 = .ok (.iload_n 1, 1) := by decide +kernel
theorem dX10_init_316 : decode cX10_init 316 = .ok (.invokevirtual 127, 3) := by decide +kernel
theorem dX10_init_319 : decode cX10_init 319 = .ok (.iinc 1 1, 3) := by decide +kernel
theorem dX10_init_322 : decode cX10_init 322 = .ok (.goto (-13), 3) := by decide +kernel
theorem dX10_init_325 : decode cX10_init 325 = .ok (.return_, 1) := by decide +kernel
theorem dX10_empty_0 : decode cX10_empty 0 = .ok (.iconst 0, 1) := by decide +kernel
theorem dX10_empty_1 : decode cX10_empty 1 = .ok (.istore_n 2, 1) := by decide +kernel
theorem dX10_empty_2 : decode cX10_empty 2 = .ok (.iload_n 2, 1) := by decide +kernel
theorem dX10_empty_3 : decode cX10_empty 3 = .ok (.iconst 4, 1) := by decide +kernel
theorem dX10_empty_4 : decode cX10_empty 4 = .ok (.if_icmp .ge 20, 3) := by decide +kernel
theorem dX10_empty_7 : decode cX10_empty 7 = .ok (.aload_n 0, 1) := by decide +kernel
theorem dX10_empty_8 : decode cX10_empty 8 = .ok (.getfield 7, 3) := by decide +kernel
theorem dX10_empty_11 : decode cX10_empty 11 = .ok (.iconst 4, 1) := by decide +kernel
theorem dX10_empty_12 : decode cX10_empty 12 = .ok (.iload_n 1, 1) := by decide +kernel
theorem dX10_empty_13 : decode cX10_empty 13 = .ok (.imul, 1) := by decide +kernel
theorem dX10_empty_14 : decode cX10_empty 14 = .ok (.iload_n 2, 1) := by decide +kernel
theorem dX10_empty_15 : decode cX10_empty 15 = .ok (.iadd, 1) := by decide +kernel
theorem dX10_empty_16 : decode cX10_empty 16 = .ok (.iconst (-1), 1) := by decide +kernel
theorem dX10_empty_17 : decode cX10_empty 17 = .ok (.iastore, 1) := by decide +kernel
theorem dX10_empty_18 : decode cX10_empty 18 = .ok (.iinc 2 1, 3) := by decide +kernel
theorem dX10_empty_21 : decode cX10_empty 21 = .ok (.goto (-19), 3) := by decide +kernel
theorem dX10_empty_24 : decode cX10_empty 24 = .ok (.iconst 0, 1) := by decide +kernel
theorem dX10_empty_25 : decode cX10_empty 25 = .ok (.istore_n 2, 1) := by decide +kernel
theorem dX10_empty_26 : decode cX10_empty 26 = .ok (.iload_n 2, 1) := by decide +kernel
theorem dX10_empty_27 : decode cX10_empty 27 = .ok (.bipush 16, 2) := by decide +kernel
theorem dX10_empty_29 : decode cX10_empty 29 = .ok (.if_icmp .ge 21, 3) := by decide +kernel
theorem dX10_empty_32 : decode cX10_empty 32 = .ok (.aload_n 0, 1) := by decide +kernel
theorem dX10_empty_33 : decode cX10_empty 33 = .ok (.getfield 13, 3) := by decide +kernel
theorem dX10_empty_36 : decode cX10_empty 36 = .ok (.bipush 16, 2) := by decide +kernel
theorem dX10_empty_38 : decode cX10_empty 38 = .ok (.iload_n 1, 1) := by decide +kernel
theorem dX10_empty_39 : decode cX10_empty 39 = .ok (.imul, 1) := by decide +kernel
theorem dX10_empty_40 : decode cX10_empty 40 = .ok (.iload_n 2, 1) := by decide +kernel
theorem dX10_empty_41 : decode cX10_empty 41 = .ok (.iadd, 1) := by decide +kernel
theorem dX10_empty_42 : decode cX10_empty 42 = .ok (.iconst (-1), 1) := by decide +kernel
theorem dX10_empty_43 : decode cX10_empty 43 = .ok (.iastore, 1) := by decide +kernel
theorem dX10_empty_44 : decode cX10_empty 44 = .ok (.iinc 2 1, 3) := by decide +kernel
theorem dX10_empty_47 : decode cX10_empty 47 = .ok (.goto (-21), 3) := by decide +kernel
theorem dX10_empty_50 : decode cX10_empty 50 = .ok (.aload_n 0, 1) := by decide +kernel
theorem dX10_empty_51 : decode cX10_empty 51 = .ok (.getfield 25, 3) := by decide +kernel
theorem dX10_empty_54 : decode cX10_empty 54 = .ok (.iload_n 1, 1) := by decide +kernel
theorem dX10_empty_55 : decode cX10_empty 55 = .ok (.iconst 0, 1) := by decide +kernel
theorem dX10_empty_56 : decode cX10_empty 56 = .ok (.iastore, 1) := by decide +kernel
theorem dX10_empty_57 : decode cX10_empty 57 = .ok (.aload_n 0, 1) := by decide +kernel
theorem dX10_empty_58 : decode cX10_empty 58 = .ok (.getfield 40, 3) := by decide +kernel
theorem dX10_empty_61 : decode cX10_empty 61 = .ok (.iload_n 1, 1) := by decide +kernel
theorem dX10_empty_62 : decode cX10_empty 62 = .ok (.iconst 0, 1) := by decide +kernel
theorem dX10_empty_63 : decode cX10_empty 63 = .ok (.iastore, 1) := by decide +kernel
theorem dX10_empty_64 : decode cX10_empty 64 = .ok (.aload_n 0, 1) := by decide +kernel
theorem dX10_empty_65 : decode cX10_empty 65 = .ok (.getfield 43, 3) := by decide +kernel
theorem dX10_empty_68 : decode cX10_empty 68 = .ok (.iload_n 1, 1) := by decide +kernel
theorem dX10_empty_69 : decode cX10_empty 69 = .ok (.iconst (-1), 1) := by decide +kernel
theorem dX10_empty_70 : decode cX10_empty 70 = .ok (.iastore, 1) := by decide +kernel
theorem dX10_empty_71 : decode cX10_empty 71 = .ok (.aload_n 0, 1) := by decide +kernel
theorem dX10_empty_72 : decode cX10_empty 72 = .ok (.getfield 46, 3) := by decide +kernel
theorem dX10_empty_75 : decode cX10_empty 75 = .ok (.iload_n 1, 1) := by decide +kernel
theorem dX10_empty_76 : decode cX10_empty 76 = .ok (.iconst 0, 1) := by decide +kernel
theorem dX10_empty_77 : decode cX10_empty 77 = .ok (.iastore, 1) := by decide +kernel
theorem dX10_empty_78 : decode cX10_empty 78 = .ok (.return_, 1) := by decide +kernel
theorem dX10_in_0 : decode cX10_in 0 = .ok (.lload_n 0, 1) := by decide +kernel
theorem dX10_in_1 : decode cX10_in 1 = .ok (.lload_n 2, 1) := by decide +kernel
theorem dX10_in_2 : decode cX10_in 2 = .ok (.lcmp, 1) := by decide +kernel
theorem dX10_in_3 : decode cX10_in 3 = .ok (.ifCond .lt 14, 3) := by decide +kernel
theorem dX10_in_6 : decode cX10_in 6 = .ok (.lload_n 0, 1) := by decide +kernel
theorem dX10_in_7 : decode cX10_in 7 = .ok (.lload 4, 2) := by decide +kernel
theorem dX10_in_9 : decode cX10_in 9 = .ok (.lcmp, 1) := by decide +kernel
theorem dX10_in_10 : decode cX10_in 10 = .ok (.ifCond .gt 7, 3) := by decide +kernel
theorem dX10_in_13 : decode cX10_in 13 = .ok (.iconst 1, 1) := by decide +kernel
theorem dX10_in_14 : decode cX10_in 14 = .ok (.goto 4, 3) := by decide +kernel
theorem dX10_in_17 : decode cX10_in 17 = .ok (.iconst 0, 1) := by decide +kernel
theorem dX10_in_18 : decode cX10_in 18 = .ok (.ireturn, 1) := by decide +kernel
theorem dX10_says_0 : decode cX10_says 0 = .ok (.aload_n 0, 1) := by decide +kernel
theorem dX10_says_1 : decode cX10_says 1 = .ok (.iconst 0, 1) := by decide +kernel
theorem dX10_says_2 : decode cX10_says 2 = .ok (.putfield 131, 3) := by decide +kernel
theorem dX10_says_5 : decode cX10_says 5 = .ok (.iload_n 1, 1) := by decide +kernel
theorem dX10_says_6 : decode cX10_says 6 = .ok (.ireturn, 1) := by decide +kernel
theorem dX10_refuses_0 : decode cX10_refuses 0 = .ok (.aload_n 0, 1) := by decide +kernel
theorem dX10_refuses_1 : decode cX10_refuses 1 = .ok (.iload_n 1, 1) := by decide +kernel
theorem dX10_refuses_2 : decode cX10_refuses 2 = .ok (.putfield 131, 3) := by decide +kernel
theorem dX10_refuses_5 : decode cX10_refuses 5 = .ok (.iload_n 1, 1) := by decide +kernel
theorem dX10_refuses_6 : decode cX10_refuses 6 = .ok (.ireturn, 1) := by decide +kernel
theorem dX10_notes_0 : decode cX10_notes 0 = .ok (.aload_n 0, 1) := by decide +kernel
theorem dX10_notes_1 : decode cX10_notes 1 = .ok (.getfield 134, 3) := by decide +kernel
theorem dX10_notes_4 : decode cX10_notes 4 = .ok (.ifCond .ne 18, 3) := by decide +kernel
theorem dX10_notes_7 : decode cX10_notes 7 = .ok (.aload_n 0, 1) := by decide +kernel
theorem dX10_notes_8 : decode cX10_notes 8 = .ok (.dup, 1) := by decide +kernel
theorem dX10_notes_9 : decode cX10_notes 9 = .ok (.getfield 138, 3) := by decide +kernel
theorem dX10_notes_12 : decode cX10_notes 12 = .ok (.iconst 1, 1) := by decide +kernel
theorem dX10_notes_13 : decode cX10_notes 13 = .ok (.iadd, 1) := by decide +kernel
theorem dX10_notes_14 : decode cX10_notes 14 = .ok (.putfield 138, 3) := by decide +kernel
theorem dX10_notes_17 : decode cX10_notes 17 = .ok (.aload_n 0, 1) := by decide +kernel
theorem dX10_notes_18 : decode cX10_notes 18 = .ok (.iload_n 1, 1) := by decide +kernel
theorem dX10_notes_19 : decode cX10_notes 19 = .ok (.putfield 141, 3) := by decide +kernel
theorem dX10_notes_22 : decode cX10_notes 22 = .ok (.return_, 1) := by decide +kernel
theorem dX10_meets_0 : decode cX10_meets 0 = .ok (.aload_n 0, 1) := by decide +kernel
theorem dX10_meets_1 : decode cX10_meets 1 = .ok (.iload_n 1, 1) := by decide +kernel
theorem dX10_meets_2 : decode cX10_meets 2 = .ok (.invokevirtual 144, 3) := by decide +kernel
theorem dX10_meets_5 : decode cX10_meets 5 = .ok (.aload_n 0, 1) := by decide +kernel
theorem dX10_meets_6 : decode cX10_meets 6 = .ok (.bipush (-10), 2) := by decide +kernel
theorem dX10_meets_8 : decode cX10_meets 8 = .ok (.iload_n 1, 1) := by decide +kernel
theorem dX10_meets_9 : decode cX10_meets 9 = .ok (.isub, 1) := by decide +kernel
theorem dX10_meets_10 : decode cX10_meets 10 = .ok (.putfield 131, 3) := by decide +kernel
theorem dX10_meets_13 : decode cX10_meets 13 = .ok (.aload_n 0, 1) := by decide +kernel
theorem dX10_meets_14 : decode cX10_meets 14 = .ok (.getfield 131, 3) := by decide +kernel
theorem dX10_meets_17 : decode cX10_meets 17 = .ok (.ireturn, 1) := by decide +kernel
theorem dX10_writes_0 : decode cX10_writes 0 = .ok (.aload_n 0, 1) := by decide +kernel
theorem dX10_writes_1 : decode cX10_writes 1 = .ok (.getfield 134, 3) := by decide +kernel
theorem dX10_writes_4 : decode cX10_writes 4 = .ok (.ifCond .ne 32, 3) := by decide +kernel
theorem dX10_writes_7 : decode cX10_writes 7 = .ok (.aload_n 0, 1) := by decide +kernel
theorem dX10_writes_8 : decode cX10_writes 8 = .ok (.getfield 147, 3) := by decide +kernel
theorem dX10_writes_11 : decode cX10_writes 11 = .ok (.bipush 60, 2) := by decide +kernel
theorem dX10_writes_13 : decode cX10_writes 13 = .ok (.if_icmp .ge 13, 3) := by decide +kernel
theorem dX10_writes_16 : decode cX10_writes 16 = .ok (.aload_n 0, 1) := by decide +kernel
theorem dX10_writes_17 : decode cX10_writes 17 = .ok (.getfield 52, 3) := by decide +kernel
theorem dX10_writes_20 : decode cX10_writes 20 = .ok (.aload_n 0, 1) := by decide +kernel
theorem dX10_writes_21 : decode cX10_writes 21 = .ok (.getfield 147, 3) := by decide +kernel
theorem dX10_writes_24 : decode cX10_writes 24 = .ok (.iload_n 1, 1) := by decide +kernel
theorem dX10_writes_25 : decode cX10_writes 25 = .ok (.iastore, 1) := by decide +kernel
theorem dX10_writes_26 : decode cX10_writes 26 = .ok (.aload_n 0, 1) := by decide +kernel
theorem dX10_writes_27 : decode cX10_writes 27 = .ok (.dup, 1) := by decide +kernel
theorem dX10_writes_28 : decode cX10_writes 28 = .ok (.getfield 147, 3) := by decide +kernel
theorem dX10_writes_31 : decode cX10_writes 31 = .ok (.iconst 1, 1) := by decide +kernel
theorem dX10_writes_32 : decode cX10_writes 32 = .ok (.iadd, 1) := by decide +kernel
theorem dX10_writes_33 : decode cX10_writes 33 = .ok (.putfield 147, 3) := by decide +kernel
theorem dX10_writes_36 : decode cX10_writes 36 = .ok (.return_, 1) := by decide +kernel
theorem dX10_isChest_0 : decode cX10_isChest 0 = .ok (.iload_n 0, 1) := by decide +kernel
theorem dX10_isChest_1 : decode cX10_isChest 1 = .ok (.i2l, 1) := by decide +kernel
theorem dX10_isChest_2 : decode cX10_isChest 2 = .ok (.lconst 0, 1) := by decide +kernel
theorem dX10_isChest_3 : decode cX10_isChest 3 = .ok (.ldc2_w 150, 3) := by decide +kernel
theorem dX10_isChest_6 : decode cX10_isChest 6 = .ok (.invokestatic 152, 3) := by decide +kernel
theorem dX10_isChest_9 : decode cX10_isChest 9 = .ok (.ireturn, 1) := by decide +kernel
theorem dX10_isSeat_0 : decode cX10_isSeat 0 = .ok (.iload_n 0, 1) := by decide +kernel
theorem dX10_isSeat_1 : decode cX10_isSeat 1 = .ok (.i2l, 1) := by decide +kernel
theorem dX10_isSeat_2 : decode cX10_isSeat 2 = .ok (.lconst 0, 1) := by decide +kernel
theorem dX10_isSeat_3 : decode cX10_isSeat 3 = .ok (.ldc2_w 156, 3) := by decide +kernel
theorem dX10_isSeat_6 : decode cX10_isSeat 6 = .ok (.invokestatic 152, 3) := by decide +kernel
theorem dX10_isSeat_9 : decode cX10_isSeat 9 = .ok (.ireturn, 1) := by decide +kernel
theorem dX10_comes_0 : decode cX10_comes 0 = .ok (.aload_n 0, 1) := by decide +kernel
theorem dX10_comes_1 : decode cX10_comes 1 = .ok (.getfield 7, 3) := by decide +kernel
theorem dX10_comes_4 : decode cX10_comes 4 = .ok (.iconst 4, 1) := by decide +kernel
theorem dX10_comes_5 : decode cX10_comes 5 = .ok (.iload_n 1, 1) := by decide +kernel
theorem dX10_comes_6 : decode cX10_comes 6 = .ok (.imul, 1) := by decide +kernel
theorem dX10_comes_7 : decode cX10_comes 7 = .ok (.iload_n 2, 1) := by decide +kernel
theorem dX10_comes_8 : decode cX10_comes 8 = .ok (.iconst 4, 1) := by decide +kernel
theorem dX10_comes_9 : decode cX10_comes 9 = .ok (.idiv, 1) := by decide +kernel
theorem dX10_comes_10 : decode cX10_comes 10 = .ok (.iadd, 1) := by decide +kernel
theorem dX10_comes_11 : decode cX10_comes 11 = .ok (.iaload, 1) := by decide +kernel
theorem dX10_comes_12 : decode cX10_comes 12 = .ok (.istore_n 3, 1) := by decide +kernel
theorem dX10_comes_13 : decode cX10_comes 13 = .ok (.iload_n 3, 1) := by decide +kernel
theorem dX10_comes_14 : decode cX10_comes 14 = .ok (.iconst (-1), 1) := by decide +kernel
theorem dX10_comes_15 : decode cX10_comes 15 = .ok (.if_icmp .ne 7, 3) := by decide +kernel
theorem dX10_comes_18 : decode cX10_comes 18 = .ok (.iconst 1, 1) := by decide +kernel
theorem dX10_comes_19 : decode cX10_comes 19 = .ok (.goto 34, 3) := by decide +kernel
theorem dX10_comes_22 : decode cX10_comes 22 = .ok (.iload_n 2, 1) := by decide +kernel
theorem dX10_comes_23 : decode cX10_comes 23 = .ok (.iconst 4, 1) := by decide +kernel
theorem dX10_comes_24 : decode cX10_comes 24 = .ok (.irem, 1) := by decide +kernel
theorem dX10_comes_25 : decode cX10_comes 25 = .ok (.iload_n 3, 1) := by decide +kernel
theorem dX10_comes_26 : decode cX10_comes 26 = .ok (.if_icmp .lt 7, 3) := by decide +kernel
theorem dX10_comes_29 : decode cX10_comes 29 = .ok (.iconst 2, 1) := by decide +kernel
theorem dX10_comes_30 : decode cX10_comes 30 = .ok (.goto 23, 3) := by decide +kernel
theorem dX10_comes_33 : decode cX10_comes 33 = .ok (.aload_n 0, 1) := by decide +kernel
theorem dX10_comes_34 : decode cX10_comes 34 = .ok (.getfield 13, 3) := by decide +kernel
theorem dX10_comes_37 : decode cX10_comes 37 = .ok (.bipush 16, 2) := by decide +kernel
theorem dX10_comes_39 : decode cX10_comes 39 = .ok (.iload_n 1, 1) := by decide +kernel
theorem dX10_comes_40 : decode cX10_comes 40 = .ok (.imul, 1) := by decide +kernel
theorem dX10_comes_41 : decode cX10_comes 41 = .ok (.iload_n 2, 1) := by decide +kernel
theorem dX10_comes_42 : decode cX10_comes 42 = .ok (.iadd, 1) := by decide +kernel
theorem dX10_comes_43 : decode cX10_comes 43 = .ok (.iaload, 1) := by decide +kernel
theorem dX10_comes_44 : decode cX10_comes 44 = .ok (.iconst (-1), 1) := by decide +kernel
theorem dX10_comes_45 : decode cX10_comes 45 = .ok (.if_icmp .ne 7, 3) := by decide +kernel
theorem dX10_comes_48 : decode cX10_comes 48 = .ok (.iconst 1, 1) := by decide +kernel
theorem dX10_comes_49 : decode cX10_comes 49 = .ok (.goto 4, 3) := by decide +kernel
theorem dX10_comes_52 : decode cX10_comes 52 = .ok (.iconst 0, 1) := by decide +kernel
theorem dX10_comes_53 : decode cX10_comes 53 = .ok (.ireturn, 1) := by decide +kernel
theorem dX10_parts_0 : decode cX10_parts 0 = .ok (.iconst 0, 1) := by decide +kernel
theorem dX10_parts_1 : decode cX10_parts 1 = .ok (.istore_n 2, 1) := by decide +kernel
theorem dX10_parts_2 : decode cX10_parts 2 = .ok (.iconst 0, 1) := by decide +kernel
theorem dX10_parts_3 : decode cX10_parts 3 = .ok (.istore_n 3, 1) := by decide +kernel
theorem dX10_parts_4 : decode cX10_parts 4 = .ok (.iload_n 3, 1) := by decide +kernel
theorem dX10_parts_5 : decode cX10_parts 5 = .ok (.bipush 16, 2) := by decide +kernel
theorem dX10_parts_7 : decode cX10_parts 7 = .ok (.if_icmp .ge 32, 3) := by decide +kernel
theorem dX10_parts_10 : decode cX10_parts 10 = .ok (.iload_n 2, 1) := by decide +kernel
theorem dX10_parts_11 : decode cX10_parts 11 = .ok (.aload_n 0, 1) := by decide +kernel
theorem dX10_parts_12 : decode cX10_parts 12 = .ok (.getfield 13, 3) := by decide +kernel
theorem dX10_parts_15 : decode cX10_parts 15 = .ok (.bipush 16, 2) := by decide +kernel
theorem dX10_parts_17 : decode cX10_parts 17 = .ok (.iload_n 1, 1) := by decide +kernel
theorem dX10_parts_18 : decode cX10_parts 18 = .ok (.imul, 1) := by decide +kernel
theorem dX10_parts_19 : decode cX10_parts 19 = .ok (.iload_n 3, 1) := by decide +kernel
theorem dX10_parts_20 : decode cX10_parts 20 = .ok (.iadd, 1) := by decide +kernel
theorem dX10_parts_21 : decode cX10_parts 21 = .ok (.iaload, 1) := by decide +kernel
theorem dX10_parts_22 : decode cX10_parts 22 = .ok (.iconst (-1), 1) := by decide +kernel
theorem dX10_parts_23 : decode cX10_parts 23 = .ok (.if_icmp .ne 7, 3) := by decide +kernel
theorem dX10_parts_26 : decode cX10_parts 26 = .ok (.iconst 0, 1) := by decide +kernel
theorem dX10_parts_27 : decode cX10_parts 27 = .ok (.goto 4, 3) := by decide +kernel
theorem dX10_parts_30 : decode cX10_parts 30 = .ok (.iconst 1, 1) := by decide +kernel
theorem dX10_parts_31 : decode cX10_parts 31 = .ok (.iadd, 1) := by decide +kernel
theorem dX10_parts_32 : decode cX10_parts 32 = .ok (.istore_n 2, 1) := by decide +kernel
theorem dX10_parts_33 : decode cX10_parts 33 = .ok (.iinc 3 1, 3) := by decide +kernel
theorem dX10_parts_36 : decode cX10_parts 36 = .ok (.goto (-32), 3) := by decide +kernel
theorem dX10_parts_39 : decode cX10_parts 39 = .ok (.iload_n 2, 1) := by decide +kernel
theorem dX10_parts_40 : decode cX10_parts 40 = .ok (.ireturn, 1) := by decide +kernel
theorem dX10_multiplied_0 : decode cX10_multiplied 0 = .ok (.iconst 1, 1) := by decide +kernel
theorem dX10_multiplied_1 : decode cX10_multiplied 1 = .ok (.istore_n 3, 1) := by decide +kernel
theorem dX10_multiplied_2 : decode cX10_multiplied 2 = .ok (.iconst 0, 1) := by decide +kernel
theorem dX10_multiplied_3 : decode cX10_multiplied 3 = .ok (.istore 4, 2) := by decide +kernel
theorem dX10_multiplied_5 : decode cX10_multiplied 5 = .ok (.iload 4, 2) := by decide +kernel
theorem dX10_multiplied_7 : decode cX10_multiplied 7 = .ok (.bipush 16, 2) := by decide +kernel
theorem dX10_multiplied_9 : decode cX10_multiplied 9 = .ok (.if_icmp .ge 50, 3) := by decide +kernel
theorem dX10_multiplied_12 : decode cX10_multiplied 12 = .ok (.iload_n 3, 1) := by decide +kernel
theorem dX10_multiplied_13 : decode cX10_multiplied 13 = .ok (.aload_n 0, 1) := by decide +kernel
theorem dX10_multiplied_14 : decode cX10_multiplied 14 = .ok (.getfield 13, 3) := by decide +kernel
theorem dX10_multiplied_17 : decode cX10_multiplied 17 = .ok (.bipush 16, 2) := by decide +kernel
theorem dX10_multiplied_19 : decode cX10_multiplied 19 = .ok (.iload_n 1, 1) := by decide +kernel
theorem dX10_multiplied_20 : decode cX10_multiplied 20 = .ok (.imul, 1) := by decide +kernel
theorem dX10_multiplied_21 : decode cX10_multiplied 21 = .ok (.iload 4, 2) := by decide +kernel
theorem dX10_multiplied_23 : decode cX10_multiplied 23 = .ok (.iadd, 1) := by decide +kernel
theorem dX10_multiplied_24 : decode cX10_multiplied 24 = .ok (.iaload, 1) := by decide +kernel
theorem dX10_multiplied_25 : decode cX10_multiplied 25 = .ok (.iconst (-1), 1) := by decide +kernel
theorem dX10_multiplied_26 : decode cX10_multiplied 26 = .ok (.if_icmp .eq 9, 3) := by decide +kernel
theorem dX10_multiplied_29 : decode cX10_multiplied 29 = .ok (.iload 4, 2) := by decide +kernel
theorem dX10_multiplied_31 : decode cX10_multiplied 31 = .ok (.iload_n 2, 1) := by decide +kernel
theorem dX10_multiplied_32 : decode cX10_multiplied 32 = .ok (.if_icmp .ne 7, 3) := by decide +kernel
theorem dX10_multiplied_35 : decode cX10_multiplied 35 = .ok (.iconst 1, 1) := by decide +kernel
theorem dX10_multiplied_36 : decode cX10_multiplied 36 = .ok (.goto 15, 3) := by decide +kernel
theorem dX10_multiplied_39 : decode cX10_multiplied 39 = .ok (.aload_n 0, 1) := by decide +kernel
theorem dX10_multiplied_40 : decode cX10_multiplied 40 = .ok (.getfield 16, 3) := by decide +kernel
theorem dX10_multiplied_43 : decode cX10_multiplied 43 = .ok (.bipush 16, 2) := by decide +kernel
theorem dX10_multiplied_45 : decode cX10_multiplied 45 = .ok (.iload_n 1, 1) := by decide +kernel
theorem dX10_multiplied_46 : decode cX10_multiplied 46 = .ok (.imul, 1) := by decide +kernel
theorem dX10_multiplied_47 : decode cX10_multiplied 47 = .ok (.iload 4, 2) := by decide +kernel
theorem dX10_multiplied_49 : decode cX10_multiplied 49 = .ok (.iadd, 1) := by decide +kernel
theorem dX10_multiplied_50 : decode cX10_multiplied 50 = .ok (.iaload, 1) := by decide +kernel
theorem dX10_multiplied_51 : decode cX10_multiplied 51 = .ok (.imul, 1) := by decide +kernel
theorem dX10_multiplied_52 : decode cX10_multiplied 52 = .ok (.istore_n 3, 1) := by decide +kernel
theorem dX10_multiplied_53 : decode cX10_multiplied 53 = .ok (.iinc 4 1, 3) := by decide +kernel
theorem dX10_multiplied_56 : decode cX10_multiplied 56 = .ok (.goto (-51), 3) := by decide +kernel
theorem dX10_multiplied_59 : decode cX10_multiplied 59 = .ok (.iload_n 3, 1) := by decide +kernel
theorem dX10_multiplied_60 : decode cX10_multiplied 60 = .ok (.ireturn, 1) := by decide +kernel
theorem dX10_numberOf_0 : decode cX10_numberOf 0 = .ok (.iconst 0, 1) := by decide +kernel
theorem dX10_numberOf_1 : decode cX10_numberOf 1 = .ok (.istore_n 2, 1) := by decide +kernel
theorem dX10_numberOf_2 : decode cX10_numberOf 2 = .ok (.iconst 1, 1) := by decide +kernel
theorem dX10_numberOf_3 : decode cX10_numberOf 3 = .ok (.istore_n 3, 1) := by decide +kernel
theorem dX10_numberOf_4 : decode cX10_numberOf 4 = .ok (.iconst 0, 1) := by decide +kernel
theorem dX10_numberOf_5 : decode cX10_numberOf 5 = .ok (.istore 4, 2) := by decide +kernel
theorem dX10_numberOf_7 : decode cX10_numberOf 7 = .ok (.iload 4, 2) := by decide +kernel
theorem dX10_numberOf_9 : decode cX10_numberOf 9 = .ok (.bipush 16, 2) := by decide +kernel
theorem dX10_numberOf_11 : decode cX10_numberOf 11 = .ok (.if_icmp .ge 51, 3) := by decide +kernel
theorem dX10_numberOf_14 : decode cX10_numberOf 14 = .ok (.bipush 16, 2) := by decide +kernel
theorem dX10_numberOf_16 : decode cX10_numberOf 16 = .ok (.iload_n 1, 1) := by decide +kernel
theorem dX10_numberOf_17 : decode cX10_numberOf 17 = .ok (.imul, 1) := by decide +kernel
theorem dX10_numberOf_18 : decode cX10_numberOf 18 = .ok (.iload 4, 2) := by decide +kernel
theorem dX10_numberOf_20 : decode cX10_numberOf 20 = .ok (.iadd, 1) := by decide +kernel
theorem dX10_numberOf_21 : decode cX10_numberOf 21 = .ok (.istore 5, 2) := by decide +kernel
theorem dX10_numberOf_23 : decode cX10_numberOf 23 = .ok (.aload_n 0, 1) := by decide +kernel
theorem dX10_numberOf_24 : decode cX10_numberOf 24 = .ok (.getfield 13, 3) := by decide +kernel
theorem dX10_numberOf_27 : decode cX10_numberOf 27 = .ok (.iload 5, 2) := by decide +kernel
theorem dX10_numberOf_29 : decode cX10_numberOf 29 = .ok (.iaload, 1) := by decide +kernel
theorem dX10_numberOf_30 : decode cX10_numberOf 30 = .ok (.iconst (-1), 1) := by decide +kernel
theorem dX10_numberOf_31 : decode cX10_numberOf 31 = .ok (.if_icmp .eq 25, 3) := by decide +kernel
theorem dX10_numberOf_34 : decode cX10_numberOf 34 = .ok (.iload_n 2, 1) := by decide +kernel
theorem dX10_numberOf_35 : decode cX10_numberOf 35 = .ok (.iload_n 3, 1) := by decide +kernel
theorem dX10_numberOf_36 : decode cX10_numberOf 36 = .ok (.aload_n 0, 1) := by decide +kernel
theorem dX10_numberOf_37 : decode cX10_numberOf 37 = .ok (.getfield 19, 3) := by decide +kernel
theorem dX10_numberOf_40 : decode cX10_numberOf 40 = .ok (.iload 5, 2) := by decide +kernel
theorem dX10_numberOf_42 : decode cX10_numberOf 42 = .ok (.iaload, 1) := by decide +kernel
theorem dX10_numberOf_43 : decode cX10_numberOf 43 = .ok (.imul, 1) := by decide +kernel
theorem dX10_numberOf_44 : decode cX10_numberOf 44 = .ok (.iadd, 1) := by decide +kernel
theorem dX10_numberOf_45 : decode cX10_numberOf 45 = .ok (.istore_n 2, 1) := by decide +kernel
theorem dX10_numberOf_46 : decode cX10_numberOf 46 = .ok (.iload_n 3, 1) := by decide +kernel
theorem dX10_numberOf_47 : decode cX10_numberOf 47 = .ok (.aload_n 0, 1) := by decide +kernel
theorem dX10_numberOf_48 : decode cX10_numberOf 48 = .ok (.getfield 16, 3) := by decide +kernel
theorem dX10_numberOf_51 : decode cX10_numberOf 51 = .ok (.iload 5, 2) := by decide +kernel
theorem dX10_numberOf_53 : decode cX10_numberOf 53 = .ok (.iaload, 1) := by decide +kernel
theorem dX10_numberOf_54 : decode cX10_numberOf 54 = .ok (.imul, 1) := by decide +kernel
theorem dX10_numberOf_55 : decode cX10_numberOf 55 = .ok (.istore_n 3, 1) := by decide +kernel
theorem dX10_numberOf_56 : decode cX10_numberOf 56 = .ok (.iinc 4 1, 3) := by decide +kernel
theorem dX10_numberOf_59 : decode cX10_numberOf 59 = .ok (.goto (-52), 3) := by decide +kernel
theorem dX10_numberOf_62 : decode cX10_numberOf 62 = .ok (.iload_n 2, 1) := by decide +kernel
theorem dX10_numberOf_63 : decode cX10_numberOf 63 = .ok (.ireturn, 1) := by decide +kernel
theorem dX10_setNumber_0 : decode cX10_setNumber 0 = .ok (.iload_n 2, 1) := by decide +kernel
theorem dX10_setNumber_1 : decode cX10_setNumber 1 = .ok (.istore_n 3, 1) := by decide +kernel
theorem dX10_setNumber_2 : decode cX10_setNumber 2 = .ok (.iconst 0, 1) := by decide +kernel
theorem dX10_setNumber_3 : decode cX10_setNumber 3 = .ok (.istore 4, 2) := by decide +kernel
theorem dX10_setNumber_5 : decode cX10_setNumber 5 = .ok (.iload 4, 2) := by decide +kernel
theorem dX10_setNumber_7 : decode cX10_setNumber 7 = .ok (.bipush 16, 2) := by decide +kernel
theorem dX10_setNumber_9 : decode cX10_setNumber 9 = .ok (.if_icmp .ge 55, 3) := by decide +kernel
theorem dX10_setNumber_12 : decode cX10_setNumber 12 = .ok (.bipush 16, 2) := by decide +kernel
theorem dX10_setNumber_14 : decode cX10_setNumber 14 = .ok (.iload_n 1, 1) := by decide +kernel
theorem dX10_setNumber_15 : decode cX10_setNumber 15 = .ok (.imul, 1) := by decide +kernel
theorem dX10_setNumber_16 : decode cX10_setNumber 16 = .ok (.iload 4, 2) := by decide +kernel
theorem dX10_setNumber_18 : decode cX10_setNumber 18 = .ok (.iadd, 1) := by decide +kernel
theorem dX10_setNumber_19 : decode cX10_setNumber 19 = .ok (.istore 5, 2) := by decide +kernel
theorem dX10_setNumber_21 : decode cX10_setNumber 21 = .ok (.aload_n 0, 1) := by decide +kernel
theorem dX10_setNumber_22 : decode cX10_setNumber 22 = .ok (.getfield 13, 3) := by decide +kernel
theorem dX10_setNumber_25 : decode cX10_setNumber 25 = .ok (.iload 5, 2) := by decide +kernel
theorem dX10_setNumber_27 : decode cX10_setNumber 27 = .ok (.iaload, 1) := by decide +kernel
theorem dX10_setNumber_28 : decode cX10_setNumber 28 = .ok (.iconst (-1), 1) := by decide +kernel
theorem dX10_setNumber_29 : decode cX10_setNumber 29 = .ok (.if_icmp .eq 29, 3) := by decide +kernel
theorem dX10_setNumber_32 : decode cX10_setNumber 32 = .ok (.aload_n 0, 1) := by decide +kernel
theorem dX10_setNumber_33 : decode cX10_setNumber 33 = .ok (.getfield 19, 3) := by decide +kernel
theorem dX10_setNumber_36 : decode cX10_setNumber 36 = .ok (.iload 5, 2) := by decide +kernel
theorem dX10_setNumber_38 : decode cX10_setNumber 38 = .ok (.iload_n 3, 1) := by decide +kernel
theorem dX10_setNumber_39 : decode cX10_setNumber 39 = .ok (.aload_n 0, 1) := by decide +kernel
theorem dX10_setNumber_40 : decode cX10_setNumber 40 = .ok (.getfield 16, 3) := by decide +kernel
theorem dX10_setNumber_43 : decode cX10_setNumber 43 = .ok (.iload 5, 2) := by decide +kernel
theorem dX10_setNumber_45 : decode cX10_setNumber 45 = .ok (.iaload, 1) := by decide +kernel
theorem dX10_setNumber_46 : decode cX10_setNumber 46 = .ok (.irem, 1) := by decide +kernel
theorem dX10_setNumber_47 : decode cX10_setNumber 47 = .ok (.iastore, 1) := by decide +kernel
theorem dX10_setNumber_48 : decode cX10_setNumber 48 = .ok (.iload_n 3, 1) := by decide +kernel
theorem dX10_setNumber_49 : decode cX10_setNumber 49 = .ok (.aload_n 0, 1) := by decide +kernel
theorem dX10_setNumber_50 : decode cX10_setNumber 50 = .ok (.getfield 16, 3) := by decide +kernel
theorem dX10_setNumber_53 : decode cX10_setNumber 53 = .ok (.iload 5, 2) := by decide +kernel
theorem dX10_setNumber_55 : decode cX10_setNumber 55 = .ok (.iaload, 1) := by decide +kernel
theorem dX10_setNumber_56 : decode cX10_setNumber 56 = .ok (.idiv, 1) := by decide +kernel
theorem dX10_setNumber_57 : decode cX10_setNumber 57 = .ok (.istore_n 3, 1) := by decide +kernel
theorem dX10_setNumber_58 : decode cX10_setNumber 58 = .ok (.iinc 4 1, 3) := by decide +kernel
theorem dX10_setNumber_61 : decode cX10_setNumber 61 = .ok (.goto (-56), 3) := by decide +kernel
theorem dX10_setNumber_64 : decode cX10_setNumber 64 = .ok (.return_, 1) := by decide +kernel
theorem dX10_changed_0 : decode cX10_changed 0 = .ok (.aload_n 0, 1) := by decide +kernel
theorem dX10_changed_1 : decode cX10_changed 1 = .ok (.getfield 46, 3) := by decide +kernel
theorem dX10_changed_4 : decode cX10_changed 4 = .ok (.iload_n 1, 1) := by decide +kernel
theorem dX10_changed_5 : decode cX10_changed 5 = .ok (.iconst 0, 1) := by decide +kernel
theorem dX10_changed_6 : decode cX10_changed 6 = .ok (.iastore, 1) := by decide +kernel
theorem dX10_changed_7 : decode cX10_changed 7 = .ok (.aload_n 0, 1) := by decide +kernel
theorem dX10_changed_8 : decode cX10_changed 8 = .ok (.aload_n 0, 1) := by decide +kernel
theorem dX10_changed_9 : decode cX10_changed 9 = .ok (.getfield 158, 3) := by decide +kernel
theorem dX10_changed_12 : decode cX10_changed 12 = .ok (.ifCond .ne 18, 3) := by decide +kernel
theorem dX10_changed_15 : decode cX10_changed 15 = .ok (.aload_n 0, 1) := by decide +kernel
theorem dX10_changed_16 : decode cX10_changed 16 = .ok (.getfield 161, 3) := by decide +kernel
theorem dX10_changed_19 : decode cX10_changed 19 = .ok (.ifCond .eq 15, 3) := by decide +kernel
theorem dX10_changed_22 : decode cX10_changed 22 = .ok (.aload_n 0, 1) := by decide +kernel
theorem dX10_changed_23 : decode cX10_changed 23 = .ok (.getfield 164, 3) := by decide +kernel
theorem dX10_changed_26 : decode cX10_changed 26 = .ok (.iload_n 1, 1) := by decide +kernel
theorem dX10_changed_27 : decode cX10_changed 27 = .ok (.if_icmp .ne 7, 3) := by decide +kernel
theorem dX10_changed_30 : decode cX10_changed 30 = .ok (.iconst 1, 1) := by decide +kernel
theorem dX10_changed_31 : decode cX10_changed 31 = .ok (.goto 4, 3) := by decide +kernel
theorem dX10_changed_34 : decode cX10_changed 34 = .ok (.iconst 0, 1) := by decide +kernel
theorem dX10_changed_35 : decode cX10_changed 35 = .ok (.putfield 158, 3) := by decide +kernel
theorem dX10_changed_38 : decode cX10_changed 38 = .ok (.return_, 1) := by decide +kernel
theorem dX10_row_0 : decode cX10_row 0 = .ok (.iload_n 1, 1) := by decide +kernel
theorem dX10_row_1 : decode cX10_row 1 = .ok (.invokestatic 167, 3) := by decide +kernel
theorem dX10_row_4 : decode cX10_row 4 = .ok (.ifCond .eq 15, 3) := by decide +kernel
theorem dX10_row_7 : decode cX10_row 7 = .ok (.iload_n 2, 1) := by decide +kernel
theorem dX10_row_8 : decode cX10_row 8 = .ok (.i2l, 1) := by decide +kernel
theorem dX10_row_9 : decode cX10_row 9 = .ok (.lconst 0, 1) := by decide +kernel
theorem dX10_row_10 : decode cX10_row 10 = .ok (.ldc2_w 171, 3) := by decide +kernel
theorem dX10_row_13 : decode cX10_row 13 = .ok (.invokestatic 152, 3) := by decide +kernel
theorem dX10_row_16 : decode cX10_row 16 = .ok (.ifCond .ne 10, 3) := by decide +kernel
theorem dX10_row_19 : decode cX10_row 19 = .ok (.aload_n 0, 1) := by decide +kernel
theorem dX10_row_20 : decode cX10_row 20 = .ok (.bipush (-2), 2) := by decide +kernel
theorem dX10_row_22 : decode cX10_row 22 = .ok (.invokevirtual 173, 3) := by decide +kernel
theorem dX10_row_25 : decode cX10_row 25 = .ok (.ireturn, 1) := by decide +kernel
theorem dX10_row_26 : decode cX10_row 26 = .ok (.iload_n 3, 1) := by decide +kernel
theorem dX10_row_27 : decode cX10_row 27 = .ok (.iconst 4, 1) := by decide +kernel
theorem dX10_row_28 : decode cX10_row 28 = .ok (.if_icmp .le 10, 3) := by decide +kernel
theorem dX10_row_31 : decode cX10_row 31 = .ok (.aload_n 0, 1) := by decide +kernel
theorem dX10_row_32 : decode cX10_row 32 = .ok (.bipush (-3), 2) := by decide +kernel
theorem dX10_row_34 : decode cX10_row 34 = .ok (.invokevirtual 173, 3) := by decide +kernel
theorem dX10_row_37 : decode cX10_row 37 = .ok (.ireturn, 1) := by decide +kernel
theorem dX10_row_38 : decode cX10_row 38 = .ok (.iload_n 3, 1) := by decide +kernel
theorem dX10_row_39 : decode cX10_row 39 = .ok (.iconst (-1), 1) := by decide +kernel
theorem dX10_row_40 : decode cX10_row 40 = .ok (.if_icmp .ge 9, 3) := by decide +kernel
theorem dX10_row_43 : decode cX10_row 43 = .ok (.aload_n 0, 1) := by decide +kernel
theorem dX10_row_44 : decode cX10_row 44 = .ok (.iconst 4, 1) := by decide +kernel
theorem dX10_row_45 : decode cX10_row 45 = .ok (.invokevirtual 177, 3) := by decide +kernel
theorem dX10_row_48 : decode cX10_row 48 = .ok (.ireturn, 1) := by decide +kernel
theorem dX10_row_49 : decode cX10_row 49 = .ok (.aload_n 0, 1) := by decide +kernel
theorem dX10_row_50 : decode cX10_row 50 = .ok (.getfield 7, 3) := by decide +kernel
theorem dX10_row_53 : decode cX10_row 53 = .ok (.iconst 4, 1) := by decide +kernel
theorem dX10_row_54 : decode cX10_row 54 = .ok (.iload_n 1, 1) := by decide +kernel
theorem dX10_row_55 : decode cX10_row 55 = .ok (.imul, 1) := by decide +kernel
theorem dX10_row_56 : decode cX10_row 56 = .ok (.iload_n 2, 1) := by decide +kernel
theorem dX10_row_57 : decode cX10_row 57 = .ok (.iadd, 1) := by decide +kernel
theorem dX10_row_58 : decode cX10_row 58 = .ok (.iload_n 3, 1) := by decide +kernel
theorem dX10_row_59 : decode cX10_row 59 = .ok (.iastore, 1) := by decide +kernel
theorem dX10_row_60 : decode cX10_row 60 = .ok (.iconst 0, 1) := by decide +kernel
theorem dX10_row_61 : decode cX10_row 61 = .ok (.istore 4, 2) := by decide +kernel
theorem dX10_row_63 : decode cX10_row 63 = .ok (.iload 4, 2) := by decide +kernel
theorem dX10_row_65 : decode cX10_row 65 = .ok (.iconst 4, 1) := by decide +kernel
theorem dX10_row_66 : decode cX10_row 66 = .ok (.if_icmp .ge 26, 3) := by decide +kernel
theorem dX10_row_69 : decode cX10_row 69 = .ok (.aload_n 0, 1) := by decide +kernel
theorem dX10_row_70 : decode cX10_row 70 = .ok (.getfield 13, 3) := by decide +kernel
theorem dX10_row_73 : decode cX10_row 73 = .ok (.bipush 16, 2) := by decide +kernel
theorem dX10_row_75 : decode cX10_row 75 = .ok (.iload_n 1, 1) := by decide +kernel
theorem dX10_row_76 : decode cX10_row 76 = .ok (.imul, 1) := by decide +kernel
theorem dX10_row_77 : decode cX10_row 77 = .ok (.iconst 4, 1) := by decide +kernel
theorem dX10_row_78 : decode cX10_row 78 = .ok (.iload_n 2, 1) := by decide +kernel
theorem dX10_row_79 : decode cX10_row 79 = .ok (.imul, 1) := by decide +kernel
theorem dX10_row_80 : decode cX10_row 80 = .ok (.iadd, 1) := by decide +kernel
theorem dX10_row_81 : decode cX10_row 81 = .ok (.iload 4, 2) := by decide +kernel
theorem dX10_row_83 : decode cX10_row 83 = .ok (.iadd, 1) := by decide +kernel
theorem dX10_row_84 : decode cX10_row 84 = .ok (.iconst (-1), 1) := by decide +kernel
theorem dX10_row_85 : decode cX10_row 85 = .ok (.iastore, 1) := by decide +kernel
theorem dX10_row_86 : decode cX10_row 86 = .ok (.iinc 4 1, 3) := by decide +kernel
theorem dX10_row_89 : decode cX10_row 89 = .ok (.goto (-26), 3) := by decide +kernel
theorem dX10_row_92 : decode cX10_row 92 = .ok (.aload_n 0, 1) := by decide +kernel
theorem dX10_row_93 : decode cX10_row 93 = .ok (.iload_n 1, 1) := by decide +kernel
theorem dX10_row_94 : decode cX10_row 94 = .ok (.invokevirtual 180, 3) := by decide +kernel
theorem dX10_row_97 : decode cX10_row 97 = .ok (.aload_n 0, 1) := by decide +kernel
theorem dX10_row_98 : decode cX10_row 98 = .ok (.iconst 1, 1) := by decide +kernel
theorem dX10_row_99 : decode cX10_row 99 = .ok (.invokevirtual 183, 3) := by decide +kernel
theorem dX10_row_102 : decode cX10_row 102 = .ok (.ireturn, 1) := by decide +kernel
theorem dX10_part_0 : decode cX10_part 0 = .ok (.iload_n 1, 1) := by decide +kernel
theorem dX10_part_1 : decode cX10_part 1 = .ok (.invokestatic 167, 3) := by decide +kernel
theorem dX10_part_4 : decode cX10_part 4 = .ok (.ifCond .ne 10, 3) := by decide +kernel
theorem dX10_part_7 : decode cX10_part 7 = .ok (.aload_n 0, 1) := by decide +kernel
theorem dX10_part_8 : decode cX10_part 8 = .ok (.bipush (-2), 2) := by decide +kernel
theorem dX10_part_10 : decode cX10_part 10 = .ok (.invokevirtual 173, 3) := by decide +kernel
theorem dX10_part_13 : decode cX10_part 13 = .ok (.ireturn, 1) := by decide +kernel
theorem dX10_part_14 : decode cX10_part 14 = .ok (.iload_n 2, 1) := by decide +kernel
theorem dX10_part_15 : decode cX10_part 15 = .ok (.invokestatic 186, 3) := by decide +kernel
theorem dX10_part_18 : decode cX10_part 18 = .ok (.ifCond .eq 50, 3) := by decide +kernel
theorem dX10_part_21 : decode cX10_part 21 = .ok (.iload_n 3, 1) := by decide +kernel
theorem dX10_part_22 : decode cX10_part 22 = .ok (.i2l, 1) := by decide +kernel
theorem dX10_part_23 : decode cX10_part 23 = .ok (.lconst 0, 1) := by decide +kernel
theorem dX10_part_24 : decode cX10_part 24 = .ok (.ldc2_w 189, 3) := by decide +kernel
theorem dX10_part_27 : decode cX10_part 27 = .ok (.invokestatic 152, 3) := by decide +kernel
theorem dX10_part_30 : decode cX10_part 30 = .ok (.ifCond .eq 38, 3) := by decide +kernel
theorem dX10_part_33 : decode cX10_part 33 = .ok (.iload 4, 2) := by decide +kernel
theorem dX10_part_35 : decode cX10_part 35 = .ok (.i2l, 1) := by decide +kernel
theorem dX10_part_36 : decode cX10_part 36 = .ok (.lconst 1, 1) := by decide +kernel
theorem dX10_part_37 : decode cX10_part 37 = .ok (.iload_n 3, 1) := by decide +kernel
theorem dX10_part_38 : decode cX10_part 38 = .ok (.iconst 5, 1) := by decide +kernel
theorem dX10_part_39 : decode cX10_part 39 = .ok (.if_icmp .ne 7, 3) := by decide +kernel
theorem dX10_part_42 : decode cX10_part 42 = .ok (.lconst 1, 1) := by decide +kernel
theorem dX10_part_43 : decode cX10_part 43 = .ok (.goto 6, 3) := by decide +kernel
theorem dX10_part_46 : decode cX10_part 46 = .ok (.ldc2_w 191, 3) := by decide +kernel
theorem dX10_part_49 : decode cX10_part 49 = .ok (.invokestatic 152, 3) := by decide +kernel
theorem dX10_part_52 : decode cX10_part 52 = .ok (.ifCond .eq 16, 3) := by decide +kernel
theorem dX10_part_55 : decode cX10_part 55 = .ok (.iload 5, 2) := by decide +kernel
theorem dX10_part_57 : decode cX10_part 57 = .ok (.i2l, 1) := by decide +kernel
theorem dX10_part_58 : decode cX10_part 58 = .ok (.lconst 0, 1) := by decide +kernel
theorem dX10_part_59 : decode cX10_part 59 = .ok (.ldc2_w 189, 3) := by decide +kernel
theorem dX10_part_62 : decode cX10_part 62 = .ok (.invokestatic 152, 3) := by decide +kernel
theorem dX10_part_65 : decode cX10_part 65 = .ok (.ifCond .ne 10, 3) := by decide +kernel
theorem dX10_part_68 : decode cX10_part 68 = .ok (.aload_n 0, 1) := by decide +kernel
theorem dX10_part_69 : decode cX10_part 69 = .ok (.bipush (-3), 2) := by decide +kernel
theorem dX10_part_71 : decode cX10_part 71 = .ok (.invokevirtual 173, 3) := by decide +kernel
theorem dX10_part_74 : decode cX10_part 74 = .ok (.ireturn, 1) := by decide +kernel
theorem dX10_part_75 : decode cX10_part 75 = .ok (.aload_n 0, 1) := by decide +kernel
theorem dX10_part_76 : decode cX10_part 76 = .ok (.getfield 7, 3) := by decide +kernel
theorem dX10_part_79 : decode cX10_part 79 = .ok (.iconst 4, 1) := by decide +kernel
theorem dX10_part_80 : decode cX10_part 80 = .ok (.iload_n 1, 1) := by decide +kernel
theorem dX10_part_81 : decode cX10_part 81 = .ok (.imul, 1) := by decide +kernel
theorem dX10_part_82 : decode cX10_part 82 = .ok (.iload_n 2, 1) := by decide +kernel
theorem dX10_part_83 : decode cX10_part 83 = .ok (.iconst 4, 1) := by decide +kernel
theorem dX10_part_84 : decode cX10_part 84 = .ok (.idiv, 1) := by decide +kernel
theorem dX10_part_85 : decode cX10_part 85 = .ok (.iadd, 1) := by decide +kernel
theorem dX10_part_86 : decode cX10_part 86 = .ok (.iaload, 1) := by decide +kernel
theorem dX10_part_87 : decode cX10_part 87 = .ok (.istore 6, 2) := by decide +kernel
theorem dX10_part_89 : decode cX10_part 89 = .ok (.iload 6, 2) := by decide +kernel
theorem dX10_part_91 : decode cX10_part 91 = .ok (.iconst (-1), 1) := by decide +kernel
theorem dX10_part_92 : decode cX10_part 92 = .ok (.if_icmp .eq 11, 3) := by decide +kernel
theorem dX10_part_95 : decode cX10_part 95 = .ok (.iload_n 2, 1) := by decide +kernel
theorem dX10_part_96 : decode cX10_part 96 = .ok (.iconst 4, 1) := by decide +kernel
theorem dX10_part_97 : decode cX10_part 97 = .ok (.irem, 1) := by decide +kernel
theorem dX10_part_98 : decode cX10_part 98 = .ok (.iload 6, 2) := by decide +kernel
theorem dX10_part_100 : decode cX10_part 100 = .ok (.if_icmp .lt 19, 3) := by decide +kernel
theorem dX10_part_103 : decode cX10_part 103 = .ok (.aload_n 0, 1) := by decide +kernel
theorem dX10_part_104 : decode cX10_part 104 = .ok (.iload 6, 2) := by decide +kernel
theorem dX10_part_106 : decode cX10_part 106 = .ok (.iconst (-1), 1) := by decide +kernel
theorem dX10_part_107 : decode cX10_part 107 = .ok (.if_icmp .ne 7, 3) := by decide +kernel
theorem dX10_part_110 : decode cX10_part 110 = .ok (.iconst 1, 1) := by decide +kernel
theorem dX10_part_111 : decode cX10_part 111 = .ok (.goto 4, 3) := by decide +kernel
theorem dX10_part_114 : decode cX10_part 114 = .ok (.iconst 2, 1) := by decide +kernel
theorem dX10_part_115 : decode cX10_part 115 = .ok (.invokevirtual 177, 3) := by decide +kernel
theorem dX10_part_118 : decode cX10_part 118 = .ok (.ireturn, 1) := by decide +kernel
theorem dX10_part_119 : decode cX10_part 119 = .ok (.aload_n 0, 1) := by decide +kernel
theorem dX10_part_120 : decode cX10_part 120 = .ok (.iload_n 1, 1) := by decide +kernel
theorem dX10_part_121 : decode cX10_part 121 = .ok (.iload_n 2, 1) := by decide +kernel
theorem dX10_part_122 : decode cX10_part 122 = .ok (.invokevirtual 193, 3) := by decide +kernel
theorem dX10_part_125 : decode cX10_part 125 = .ok (.iload 4, 2) := by decide +kernel
theorem dX10_part_127 : decode cX10_part 127 = .ok (.imul, 1) := by decide +kernel
theorem dX10_part_128 : decode cX10_part 128 = .ok (.sipush 1024, 3) := by decide +kernel
theorem dX10_part_131 : decode cX10_part 131 = .ok (.if_icmp .le 10, 3) := by decide +kernel
theorem dX10_part_134 : decode cX10_part 134 = .ok (.aload_n 0, 1) := by decide +kernel
theorem dX10_part_135 : decode cX10_part 135 = .ok (.bipush (-5), 2) := by decide +kernel
theorem dX10_part_137 : decode cX10_part 137 = .ok (.invokevirtual 173, 3) := by decide +kernel
theorem dX10_part_140 : decode cX10_part 140 = .ok (.ireturn, 1) := by decide +kernel
theorem dX10_part_141 : decode cX10_part 141 = .ok (.aload_n 0, 1) := by decide +kernel
theorem dX10_part_142 : decode cX10_part 142 = .ok (.iload_n 1, 1) := by decide +kernel
theorem dX10_part_143 : decode cX10_part 143 = .ok (.iload_n 2, 1) := by decide +kernel
theorem dX10_part_144 : decode cX10_part 144 = .ok (.iload_n 3, 1) := by decide +kernel
theorem dX10_part_145 : decode cX10_part 145 = .ok (.iload 4, 2) := by decide +kernel
theorem dX10_part_147 : decode cX10_part 147 = .ok (.iload 5, 2) := by decide +kernel
theorem dX10_part_149 : decode cX10_part 149 = .ok (.invokevirtual 197, 3) := by decide +kernel
theorem dX10_part_152 : decode cX10_part 152 = .ok (.aload_n 0, 1) := by decide +kernel
theorem dX10_part_153 : decode cX10_part 153 = .ok (.iload_n 1, 1) := by decide +kernel
theorem dX10_part_154 : decode cX10_part 154 = .ok (.invokevirtual 180, 3) := by decide +kernel
theorem dX10_part_157 : decode cX10_part 157 = .ok (.aload_n 0, 1) := by decide +kernel
theorem dX10_part_158 : decode cX10_part 158 = .ok (.aload_n 0, 1) := by decide +kernel
theorem dX10_part_159 : decode cX10_part 159 = .ok (.iload_n 1, 1) := by decide +kernel
theorem dX10_part_160 : decode cX10_part 160 = .ok (.invokevirtual 201, 3) := by decide +kernel
theorem dX10_part_163 : decode cX10_part 163 = .ok (.invokevirtual 183, 3) := by decide +kernel
theorem dX10_part_166 : decode cX10_part 166 = .ok (.ireturn, 1) := by decide +kernel
theorem dX10_stand_0 : decode cX10_stand 0 = .ok (.bipush 16, 2) := by decide +kernel
theorem dX10_stand_2 : decode cX10_stand 2 = .ok (.iload_n 1, 1) := by decide +kernel
theorem dX10_stand_3 : decode cX10_stand 3 = .ok (.imul, 1) := by decide +kernel
theorem dX10_stand_4 : decode cX10_stand 4 = .ok (.iload_n 2, 1) := by decide +kernel
theorem dX10_stand_5 : decode cX10_stand 5 = .ok (.iadd, 1) := by decide +kernel
theorem dX10_stand_6 : decode cX10_stand 6 = .ok (.istore 6, 2) := by decide +kernel
theorem dX10_stand_8 : decode cX10_stand 8 = .ok (.aload_n 0, 1) := by decide +kernel
theorem dX10_stand_9 : decode cX10_stand 9 = .ok (.getfield 13, 3) := by decide +kernel
theorem dX10_stand_12 : decode cX10_stand 12 = .ok (.iload 6, 2) := by decide +kernel
theorem dX10_stand_14 : decode cX10_stand 14 = .ok (.iload_n 3, 1) := by decide +kernel
theorem dX10_stand_15 : decode cX10_stand 15 = .ok (.iastore, 1) := by decide +kernel
theorem dX10_stand_16 : decode cX10_stand 16 = .ok (.aload_n 0, 1) := by decide +kernel
theorem dX10_stand_17 : decode cX10_stand 17 = .ok (.getfield 16, 3) := by decide +kernel
theorem dX10_stand_20 : decode cX10_stand 20 = .ok (.iload 6, 2) := by decide +kernel
theorem dX10_stand_22 : decode cX10_stand 22 = .ok (.iload 4, 2) := by decide +kernel
theorem dX10_stand_24 : decode cX10_stand 24 = .ok (.iastore, 1) := by decide +kernel
theorem dX10_stand_25 : decode cX10_stand 25 = .ok (.aload_n 0, 1) := by decide +kernel
theorem dX10_stand_26 : decode cX10_stand 26 = .ok (.getfield 19, 3) := by decide +kernel
theorem dX10_stand_29 : decode cX10_stand 29 = .ok (.iload 6, 2) := by decide +kernel
theorem dX10_stand_31 : decode cX10_stand 31 = .ok (.iconst 0, 1) := by decide +kernel
theorem dX10_stand_32 : decode cX10_stand 32 = .ok (.iastore, 1) := by decide +kernel
theorem dX10_stand_33 : decode cX10_stand 33 = .ok (.aload_n 0, 1) := by decide +kernel
theorem dX10_stand_34 : decode cX10_stand 34 = .ok (.getfield 22, 3) := by decide +kernel
theorem dX10_stand_37 : decode cX10_stand 37 = .ok (.iload 6, 2) := by decide +kernel
theorem dX10_stand_39 : decode cX10_stand 39 = .ok (.iload 5, 2) := by decide +kernel
theorem dX10_stand_41 : decode cX10_stand 41 = .ok (.iastore, 1) := by decide +kernel
theorem dX10_stand_42 : decode cX10_stand 42 = .ok (.return_, 1) := by decide +kernel
theorem dX10_take_0 : decode cX10_take 0 = .ok (.iload_n 1, 1) := by decide +kernel
theorem dX10_take_1 : decode cX10_take 1 = .ok (.invokestatic 167, 3) := by decide +kernel
theorem dX10_take_4 : decode cX10_take 4 = .ok (.ifCond .eq 10, 3) := by decide +kernel
theorem dX10_take_7 : decode cX10_take 7 = .ok (.iload_n 2, 1) := by decide +kernel
theorem dX10_take_8 : decode cX10_take 8 = .ok (.invokestatic 186, 3) := by decide +kernel
theorem dX10_take_11 : decode cX10_take 11 = .ok (.ifCond .ne 22, 3) := by decide +kernel
theorem dX10_take_14 : decode cX10_take 14 = .ok (.aload_n 0, 1) := by decide +kernel
theorem dX10_take_15 : decode cX10_take 15 = .ok (.iload_n 1, 1) := by decide +kernel
theorem dX10_take_16 : decode cX10_take 16 = .ok (.invokestatic 167, 3) := by decide +kernel
theorem dX10_take_19 : decode cX10_take 19 = .ok (.ifCond .eq 8, 3) := by decide +kernel
theorem dX10_take_22 : decode cX10_take 22 = .ok (.bipush (-3), 2) := by decide +kernel
theorem dX10_take_24 : decode cX10_take 24 = .ok (.goto 5, 3) := by decide +kernel
theorem dX10_take_27 : decode cX10_take 27 = .ok (.bipush (-2), 2) := by decide +kernel
theorem dX10_take_29 : decode cX10_take 29 = .ok (.invokevirtual 173, 3) := by decide +kernel
theorem dX10_take_32 : decode cX10_take 32 = .ok (.ireturn, 1) := by decide +kernel
theorem dX10_take_33 : decode cX10_take 33 = .ok (.aload_n 0, 1) := by decide +kernel
theorem dX10_take_34 : decode cX10_take 34 = .ok (.iload_n 1, 1) := by decide +kernel
theorem dX10_take_35 : decode cX10_take 35 = .ok (.iload_n 2, 1) := by decide +kernel
theorem dX10_take_36 : decode cX10_take 36 = .ok (.invokevirtual 204, 3) := by decide +kernel
theorem dX10_take_39 : decode cX10_take 39 = .ok (.istore_n 3, 1) := by decide +kernel
theorem dX10_take_40 : decode cX10_take 40 = .ok (.iload_n 3, 1) := by decide +kernel
theorem dX10_take_41 : decode cX10_take 41 = .ok (.ifCond .eq 9, 3) := by decide +kernel
theorem dX10_take_44 : decode cX10_take 44 = .ok (.aload_n 0, 1) := by decide +kernel
theorem dX10_take_45 : decode cX10_take 45 = .ok (.iload_n 3, 1) := by decide +kernel
theorem dX10_take_46 : decode cX10_take 46 = .ok (.invokevirtual 177, 3) := by decide +kernel
theorem dX10_take_49 : decode cX10_take 49 = .ok (.ireturn, 1) := by decide +kernel
theorem dX10_take_50 : decode cX10_take 50 = .ok (.aload_n 0, 1) := by decide +kernel
theorem dX10_take_51 : decode cX10_take 51 = .ok (.getfield 13, 3) := by decide +kernel
theorem dX10_take_54 : decode cX10_take 54 = .ok (.bipush 16, 2) := by decide +kernel
theorem dX10_take_56 : decode cX10_take 56 = .ok (.iload_n 1, 1) := by decide +kernel
theorem dX10_take_57 : decode cX10_take 57 = .ok (.imul, 1) := by decide +kernel
theorem dX10_take_58 : decode cX10_take 58 = .ok (.iload_n 2, 1) := by decide +kernel
theorem dX10_take_59 : decode cX10_take 59 = .ok (.iadd, 1) := by decide +kernel
theorem dX10_take_60 : decode cX10_take 60 = .ok (.iconst (-1), 1) := by decide +kernel
theorem dX10_take_61 : decode cX10_take 61 = .ok (.iastore, 1) := by decide +kernel
theorem dX10_take_62 : decode cX10_take 62 = .ok (.aload_n 0, 1) := by decide +kernel
theorem dX10_take_63 : decode cX10_take 63 = .ok (.iload_n 1, 1) := by decide +kernel
theorem dX10_take_64 : decode cX10_take 64 = .ok (.invokevirtual 180, 3) := by decide +kernel
theorem dX10_take_67 : decode cX10_take 67 = .ok (.aload_n 0, 1) := by decide +kernel
theorem dX10_take_68 : decode cX10_take 68 = .ok (.aload_n 0, 1) := by decide +kernel
theorem dX10_take_69 : decode cX10_take 69 = .ok (.iload_n 1, 1) := by decide +kernel
theorem dX10_take_70 : decode cX10_take 70 = .ok (.invokevirtual 201, 3) := by decide +kernel
theorem dX10_take_73 : decode cX10_take 73 = .ok (.invokevirtual 183, 3) := by decide +kernel
theorem dX10_take_76 : decode cX10_take 76 = .ok (.ireturn, 1) := by decide +kernel
theorem dX10_conditionMore_0 : decode cX10_conditionMore 0 = .ok (.bipush 40, 2) := by decide +kernel
theorem dX10_conditionMore_2 : decode cX10_conditionMore 2 = .ok (.iload_n 1, 1) := by decide +kernel
theorem dX10_conditionMore_3 : decode cX10_conditionMore 3 = .ok (.imul, 1) := by decide +kernel
theorem dX10_conditionMore_4 : decode cX10_conditionMore 4 = .ok (.aload_n 0, 1) := by decide +kernel
theorem dX10_conditionMore_5 : decode cX10_conditionMore 5 = .ok (.getfield 25, 3) := by decide +kernel
theorem dX10_conditionMore_8 : decode cX10_conditionMore 8 = .ok (.iload_n 1, 1) := by decide +kernel
theorem dX10_conditionMore_9 : decode cX10_conditionMore 9 = .ok (.iaload, 1) := by decide +kernel
theorem dX10_conditionMore_10 : decode cX10_conditionMore 10 = .ok (.iadd, 1) := by decide +kernel
theorem dX10_conditionMore_11 : decode cX10_conditionMore 11 = .ok (.istore 5, 2) := by decide +kernel
theorem dX10_conditionMore_13 : decode cX10_conditionMore 13 = .ok (.aload_n 0, 1) := by decide +kernel
theorem dX10_conditionMore_14 : decode cX10_conditionMore 14 = .ok (.getfield 28, 3) := by decide +kernel
theorem dX10_conditionMore_17 : decode cX10_conditionMore 17 = .ok (.iload 5, 2) := by decide +kernel
theorem dX10_conditionMore_19 : decode cX10_conditionMore 19 = .ok (.iload_n 2, 1) := by decide +kernel
theorem dX10_conditionMore_20 : decode cX10_conditionMore 20 = .ok (.iastore, 1) := by decide +kernel
theorem dX10_conditionMore_21 : decode cX10_conditionMore 21 = .ok (.aload_n 0, 1) := by decide +kernel
theorem dX10_conditionMore_22 : decode cX10_conditionMore 22 = .ok (.getfield 31, 3) := by decide +kernel
theorem dX10_conditionMore_25 : decode cX10_conditionMore 25 = .ok (.iload 5, 2) := by decide +kernel
theorem dX10_conditionMore_27 : decode cX10_conditionMore 27 = .ok (.iload_n 3, 1) := by decide +kernel
theorem dX10_conditionMore_28 : decode cX10_conditionMore 28 = .ok (.iastore, 1) := by decide +kernel
theorem dX10_conditionMore_29 : decode cX10_conditionMore 29 = .ok (.aload_n 0, 1) := by decide +kernel
theorem dX10_conditionMore_30 : decode cX10_conditionMore 30 = .ok (.getfield 34, 3) := by decide +kernel
theorem dX10_conditionMore_33 : decode cX10_conditionMore 33 = .ok (.iload 5, 2) := by decide +kernel
theorem dX10_conditionMore_35 : decode cX10_conditionMore 35 = .ok (.iload 4, 2) := by decide +kernel
theorem dX10_conditionMore_37 : decode cX10_conditionMore 37 = .ok (.iastore, 1) := by decide +kernel
theorem dX10_conditionMore_38 : decode cX10_conditionMore 38 = .ok (.iconst 0, 1) := by decide +kernel
theorem dX10_conditionMore_39 : decode cX10_conditionMore 39 = .ok (.istore 6, 2) := by decide +kernel
theorem dX10_conditionMore_41 : decode cX10_conditionMore 41 = .ok (.iload 6, 2) := by decide +kernel
theorem dX10_conditionMore_43 : decode cX10_conditionMore 43 = .ok (.bipush 6, 2) := by decide +kernel
theorem dX10_conditionMore_45 : decode cX10_conditionMore 45 = .ok (.if_icmp .ge 23, 3) := by decide +kernel
theorem dX10_conditionMore_48 : decode cX10_conditionMore 48 = .ok (.aload_n 0, 1) := by decide +kernel
theorem dX10_conditionMore_49 : decode cX10_conditionMore 49 = .ok (.getfield 37, 3) := by decide +kernel
theorem dX10_conditionMore_52 : decode cX10_conditionMore 52 = .ok (.bipush 6, 2) := by decide +kernel
theorem dX10_conditionMore_54 : decode cX10_conditionMore 54 = .ok (.iload 5, 2) := by decide +kernel
theorem dX10_conditionMore_56 : decode cX10_conditionMore 56 = .ok (.imul, 1) := by decide +kernel
theorem dX10_conditionMore_57 : decode cX10_conditionMore 57 = .ok (.iload 6, 2) := by decide +kernel
theorem dX10_conditionMore_59 : decode cX10_conditionMore 59 = .ok (.iadd, 1) := by decide +kernel
theorem dX10_conditionMore_60 : decode cX10_conditionMore 60 = .ok (.iconst 0, 1) := by decide +kernel
theorem dX10_conditionMore_61 : decode cX10_conditionMore 61 = .ok (.iastore, 1) := by decide +kernel
theorem dX10_conditionMore_62 : decode cX10_conditionMore 62 = .ok (.iinc 6 1, 3) := by decide +kernel
theorem dX10_conditionMore_65 : decode cX10_conditionMore 65 = .ok (.goto (-24), 3) := by decide +kernel
theorem dX10_conditionMore_68 : decode cX10_conditionMore 68 = .ok (.aload_n 0, 1) := by decide +kernel
theorem dX10_conditionMore_69 : decode cX10_conditionMore 69 = .ok (.getfield 25, 3) := by decide +kernel
theorem dX10_conditionMore_72 : decode cX10_conditionMore 72 = .ok (.iload_n 1, 1) := by decide +kernel
theorem dX10_conditionMore_73 : decode cX10_conditionMore 73 = .ok (.dup2, 1) := by decide +kernel
theorem dX10_conditionMore_74 : decode cX10_conditionMore 74 = .ok (.iaload, 1) := by decide +kernel
theorem dX10_conditionMore_75 : decode cX10_conditionMore 75 = .ok (.iconst 1, 1) := by decide +kernel
theorem dX10_conditionMore_76 : decode cX10_conditionMore 76 = .ok (.iadd, 1) := by decide +kernel
theorem dX10_conditionMore_77 : decode cX10_conditionMore 77 = .ok (.iastore, 1) := by decide +kernel
theorem dX10_conditionMore_78 : decode cX10_conditionMore 78 = .ok (.aload_n 0, 1) := by decide +kernel
theorem dX10_conditionMore_79 : decode cX10_conditionMore 79 = .ok (.getfield 25, 3) := by decide +kernel
theorem dX10_conditionMore_82 : decode cX10_conditionMore 82 = .ok (.iload_n 1, 1) := by decide +kernel
theorem dX10_conditionMore_83 : decode cX10_conditionMore 83 = .ok (.iaload, 1) := by decide +kernel
theorem dX10_conditionMore_84 : decode cX10_conditionMore 84 = .ok (.iconst 1, 1) := by decide +kernel
theorem dX10_conditionMore_85 : decode cX10_conditionMore 85 = .ok (.isub, 1) := by decide +kernel
theorem dX10_conditionMore_86 : decode cX10_conditionMore 86 = .ok (.ireturn, 1) := by decide +kernel
theorem dX10_condition_0 : decode cX10_condition 0 = .ok (.iload_n 1, 1) := by decide +kernel
theorem dX10_condition_1 : decode cX10_condition 1 = .ok (.invokestatic 167, 3) := by decide +kernel
theorem dX10_condition_4 : decode cX10_condition 4 = .ok (.ifCond .ne 10, 3) := by decide +kernel
theorem dX10_condition_7 : decode cX10_condition 7 = .ok (.aload_n 0, 1) := by decide +kernel
theorem dX10_condition_8 : decode cX10_condition 8 = .ok (.bipush (-2), 2) := by decide +kernel
theorem dX10_condition_10 : decode cX10_condition 10 = .ok (.invokevirtual 173, 3) := by decide +kernel
theorem dX10_condition_13 : decode cX10_condition 13 = .ok (.ireturn, 1) := by decide +kernel
theorem dX10_condition_14 : decode cX10_condition 14 = .ok (.iload_n 2, 1) := by decide +kernel
theorem dX10_condition_15 : decode cX10_condition 15 = .ok (.i2l, 1) := by decide +kernel
theorem dX10_condition_16 : decode cX10_condition 16 = .ok (.ldc2_w 207, 3) := by decide +kernel
theorem dX10_condition_19 : decode cX10_condition 19 = .ok (.ldc2_w 156, 3) := by decide +kernel
theorem dX10_condition_22 : decode cX10_condition 22 = .ok (.invokestatic 152, 3) := by decide +kernel
theorem dX10_condition_25 : decode cX10_condition 25 = .ok (.ifCond .eq 17, 3) := by decide +kernel
theorem dX10_condition_28 : decode cX10_condition 28 = .ok (.iload_n 3, 1) := by decide +kernel
theorem dX10_condition_29 : decode cX10_condition 29 = .ok (.invokestatic 186, 3) := by decide +kernel
theorem dX10_condition_32 : decode cX10_condition 32 = .ok (.ifCond .eq 10, 3) := by decide +kernel
theorem dX10_condition_35 : decode cX10_condition 35 = .ok (.iload 4, 2) := by decide +kernel
theorem dX10_condition_37 : decode cX10_condition 37 = .ok (.bipush 6, 2) := by decide +kernel
theorem dX10_condition_39 : decode cX10_condition 39 = .ok (.if_icmp .le 10, 3) := by decide +kernel
theorem dX10_condition_42 : decode cX10_condition 42 = .ok (.aload_n 0, 1) := by decide +kernel
theorem dX10_condition_43 : decode cX10_condition 43 = .ok (.bipush (-3), 2) := by decide +kernel
theorem dX10_condition_45 : decode cX10_condition 45 = .ok (.invokevirtual 173, 3) := by decide +kernel
theorem dX10_condition_48 : decode cX10_condition 48 = .ok (.ireturn, 1) := by decide +kernel
theorem dX10_condition_49 : decode cX10_condition 49 = .ok (.iload 4, 2) := by decide +kernel
theorem dX10_condition_51 : decode cX10_condition 51 = .ok (.iconst (-1), 1) := by decide +kernel
theorem dX10_condition_52 : decode cX10_condition 52 = .ok (.if_icmp .ge 9, 3) := by decide +kernel
theorem dX10_condition_55 : decode cX10_condition 55 = .ok (.aload_n 0, 1) := by decide +kernel
theorem dX10_condition_56 : decode cX10_condition 56 = .ok (.iconst 4, 1) := by decide +kernel
theorem dX10_condition_57 : decode cX10_condition 57 = .ok (.invokevirtual 177, 3) := by decide +kernel
theorem dX10_condition_60 : decode cX10_condition 60 = .ok (.ireturn, 1) := by decide +kernel
theorem dX10_condition_61 : decode cX10_condition 61 = .ok (.aload_n 0, 1) := by decide +kernel
theorem dX10_condition_62 : decode cX10_condition 62 = .ok (.getfield 25, 3) := by decide +kernel
theorem dX10_condition_65 : decode cX10_condition 65 = .ok (.iload_n 1, 1) := by decide +kernel
theorem dX10_condition_66 : decode cX10_condition 66 = .ok (.iaload, 1) := by decide +kernel
theorem dX10_condition_67 : decode cX10_condition 67 = .ok (.bipush 40, 2) := by decide +kernel
theorem dX10_condition_69 : decode cX10_condition 69 = .ok (.if_icmp .ne 10, 3) := by decide +kernel
theorem dX10_condition_72 : decode cX10_condition 72 = .ok (.aload_n 0, 1) := by decide +kernel
theorem dX10_condition_73 : decode cX10_condition 73 = .ok (.bipush (-5), 2) := by decide +kernel
theorem dX10_condition_75 : decode cX10_condition 75 = .ok (.invokevirtual 173, 3) := by decide +kernel
theorem dX10_condition_78 : decode cX10_condition 78 = .ok (.ireturn, 1) := by decide +kernel
theorem dX10_condition_79 : decode cX10_condition 79 = .ok (.aload_n 0, 1) := by decide +kernel
theorem dX10_condition_80 : decode cX10_condition 80 = .ok (.iload_n 1, 1) := by decide +kernel
theorem dX10_condition_81 : decode cX10_condition 81 = .ok (.iload_n 2, 1) := by decide +kernel
theorem dX10_condition_82 : decode cX10_condition 82 = .ok (.iload_n 3, 1) := by decide +kernel
theorem dX10_condition_83 : decode cX10_condition 83 = .ok (.iload 4, 2) := by decide +kernel
theorem dX10_condition_85 : decode cX10_condition 85 = .ok (.invokevirtual 209, 3) := by decide +kernel
theorem dX10_condition_88 : decode cX10_condition 88 = .ok (.istore 5, 2) := by decide +kernel
theorem dX10_condition_90 : decode cX10_condition 90 = .ok (.aload_n 0, 1) := by decide +kernel
theorem dX10_condition_91 : decode cX10_condition 91 = .ok (.iload_n 1, 1) := by decide +kernel
theorem dX10_condition_92 : decode cX10_condition 92 = .ok (.invokevirtual 180, 3) := by decide +kernel
theorem dX10_condition_95 : decode cX10_condition 95 = .ok (.aload_n 0, 1) := by decide +kernel
theorem dX10_condition_96 : decode cX10_condition 96 = .ok (.iload 5, 2) := by decide +kernel
theorem dX10_condition_98 : decode cX10_condition 98 = .ok (.invokevirtual 183, 3) := by decide +kernel
theorem dX10_condition_101 : decode cX10_condition 101 = .ok (.ireturn, 1) := by decide +kernel
theorem dX10_isCondition_0 : decode cX10_isCondition 0 = .ok (.iload_n 1, 1) := by decide +kernel
theorem dX10_isCondition_1 : decode cX10_isCondition 1 = .ok (.invokestatic 167, 3) := by decide +kernel
theorem dX10_isCondition_4 : decode cX10_isCondition 4 = .ok (.ifCond .eq 25, 3) := by decide +kernel
theorem dX10_isCondition_7 : decode cX10_isCondition 7 = .ok (.iload_n 2, 1) := by decide +kernel
theorem dX10_isCondition_8 : decode cX10_isCondition 8 = .ok (.i2l, 1) := by decide +kernel
theorem dX10_isCondition_9 : decode cX10_isCondition 9 = .ok (.lconst 0, 1) := by decide +kernel
theorem dX10_isCondition_10 : decode cX10_isCondition 10 = .ok (.aload_n 0, 1) := by decide +kernel
theorem dX10_isCondition_11 : decode cX10_isCondition 11 = .ok (.getfield 25, 3) := by decide +kernel
theorem dX10_isCondition_14 : decode cX10_isCondition 14 = .ok (.iload_n 1, 1) := by decide +kernel
theorem dX10_isCondition_15 : decode cX10_isCondition 15 = .ok (.iaload, 1) := by decide +kernel
theorem dX10_isCondition_16 : decode cX10_isCondition 16 = .ok (.iconst 1, 1) := by decide +kernel
theorem dX10_isCondition_17 : decode cX10_isCondition 17 = .ok (.isub, 1) := by decide +kernel
theorem dX10_isCondition_18 : decode cX10_isCondition 18 = .ok (.i2l, 1) := by decide +kernel
theorem dX10_isCondition_19 : decode cX10_isCondition 19 = .ok (.invokestatic 152, 3) := by decide +kernel
theorem dX10_isCondition_22 : decode cX10_isCondition 22 = .ok (.ifCond .eq 7, 3) := by decide +kernel
theorem dX10_isCondition_25 : decode cX10_isCondition 25 = .ok (.iconst 1, 1) := by decide +kernel
theorem dX10_isCondition_26 : decode cX10_isCondition 26 = .ok (.goto 4, 3) := by decide +kernel
theorem dX10_isCondition_29 : decode cX10_isCondition 29 = .ok (.iconst 0, 1) := by decide +kernel
theorem dX10_isCondition_30 : decode cX10_isCondition 30 = .ok (.ireturn, 1) := by decide +kernel
theorem dX10_truth_0 : decode cX10_truth 0 = .ok (.aload_n 0, 1) := by decide +kernel
theorem dX10_truth_1 : decode cX10_truth 1 = .ok (.iload_n 1, 1) := by decide +kernel
theorem dX10_truth_2 : decode cX10_truth 2 = .ok (.iload_n 2, 1) := by decide +kernel
theorem dX10_truth_3 : decode cX10_truth 3 = .ok (.invokevirtual 213, 3) := by decide +kernel
theorem dX10_truth_6 : decode cX10_truth 6 = .ok (.ifCond .ne 10, 3) := by decide +kernel
theorem dX10_truth_9 : decode cX10_truth 9 = .ok (.aload_n 0, 1) := by decide +kernel
theorem dX10_truth_10 : decode cX10_truth 10 = .ok (.bipush (-2), 2) := by decide +kernel
theorem dX10_truth_12 : decode cX10_truth 12 = .ok (.invokevirtual 173, 3) := by decide +kernel
theorem dX10_truth_15 : decode cX10_truth 15 = .ok (.ireturn, 1) := by decide +kernel
theorem dX10_truth_16 : decode cX10_truth 16 = .ok (.bipush 40, 2) := by decide +kernel
theorem dX10_truth_18 : decode cX10_truth 18 = .ok (.iload_n 1, 1) := by decide +kernel
theorem dX10_truth_19 : decode cX10_truth 19 = .ok (.imul, 1) := by decide +kernel
theorem dX10_truth_20 : decode cX10_truth 20 = .ok (.iload_n 2, 1) := by decide +kernel
theorem dX10_truth_21 : decode cX10_truth 21 = .ok (.iadd, 1) := by decide +kernel
theorem dX10_truth_22 : decode cX10_truth 22 = .ok (.istore 5, 2) := by decide +kernel
theorem dX10_truth_24 : decode cX10_truth 24 = .ok (.aload_n 0, 1) := by decide +kernel
theorem dX10_truth_25 : decode cX10_truth 25 = .ok (.getfield 34, 3) := by decide +kernel
theorem dX10_truth_28 : decode cX10_truth 28 = .ok (.iload 5, 2) := by decide +kernel
theorem dX10_truth_30 : decode cX10_truth 30 = .ok (.iaload, 1) := by decide +kernel
theorem dX10_truth_31 : decode cX10_truth 31 = .ok (.iconst (-1), 1) := by decide +kernel
theorem dX10_truth_32 : decode cX10_truth 32 = .ok (.if_icmp .eq 22, 3) := by decide +kernel
theorem dX10_truth_35 : decode cX10_truth 35 = .ok (.iload_n 3, 1) := by decide +kernel
theorem dX10_truth_36 : decode cX10_truth 36 = .ok (.i2l, 1) := by decide +kernel
theorem dX10_truth_37 : decode cX10_truth 37 = .ok (.lconst 0, 1) := by decide +kernel
theorem dX10_truth_38 : decode cX10_truth 38 = .ok (.aload_n 0, 1) := by decide +kernel
theorem dX10_truth_39 : decode cX10_truth 39 = .ok (.getfield 34, 3) := by decide +kernel
theorem dX10_truth_42 : decode cX10_truth 42 = .ok (.iload 5, 2) := by decide +kernel
theorem dX10_truth_44 : decode cX10_truth 44 = .ok (.iaload, 1) := by decide +kernel
theorem dX10_truth_45 : decode cX10_truth 45 = .ok (.iconst 1, 1) := by decide +kernel
theorem dX10_truth_46 : decode cX10_truth 46 = .ok (.isub, 1) := by decide +kernel
theorem dX10_truth_47 : decode cX10_truth 47 = .ok (.i2l, 1) := by decide +kernel
theorem dX10_truth_48 : decode cX10_truth 48 = .ok (.invokestatic 152, 3) := by decide +kernel
theorem dX10_truth_51 : decode cX10_truth 51 = .ok (.ifCond .ne 24, 3) := by decide +kernel
theorem dX10_truth_54 : decode cX10_truth 54 = .ok (.aload_n 0, 1) := by decide +kernel
theorem dX10_truth_55 : decode cX10_truth 55 = .ok (.aload_n 0, 1) := by decide +kernel
theorem dX10_truth_56 : decode cX10_truth 56 = .ok (.getfield 34, 3) := by decide +kernel
theorem dX10_truth_59 : decode cX10_truth 59 = .ok (.iload 5, 2) := by decide +kernel
theorem dX10_truth_61 : decode cX10_truth 61 = .ok (.iaload, 1) := by decide +kernel
theorem dX10_truth_62 : decode cX10_truth 62 = .ok (.iconst (-1), 1) := by decide +kernel
theorem dX10_truth_63 : decode cX10_truth 63 = .ok (.if_icmp .ne 7, 3) := by decide +kernel
theorem dX10_truth_66 : decode cX10_truth 66 = .ok (.iconst 1, 1) := by decide +kernel
theorem dX10_truth_67 : decode cX10_truth 67 = .ok (.goto 4, 3) := by decide +kernel
theorem dX10_truth_70 : decode cX10_truth 70 = .ok (.iconst 2, 1) := by decide +kernel
theorem dX10_truth_71 : decode cX10_truth 71 = .ok (.invokevirtual 177, 3) := by decide +kernel
theorem dX10_truth_74 : decode cX10_truth 74 = .ok (.ireturn, 1) := by decide +kernel
theorem dX10_truth_75 : decode cX10_truth 75 = .ok (.aload_n 0, 1) := by decide +kernel
theorem dX10_truth_76 : decode cX10_truth 76 = .ok (.getfield 37, 3) := by decide +kernel
theorem dX10_truth_79 : decode cX10_truth 79 = .ok (.bipush 6, 2) := by decide +kernel
theorem dX10_truth_81 : decode cX10_truth 81 = .ok (.iload 5, 2) := by decide +kernel
theorem dX10_truth_83 : decode cX10_truth 83 = .ok (.imul, 1) := by decide +kernel
theorem dX10_truth_84 : decode cX10_truth 84 = .ok (.iload_n 3, 1) := by decide +kernel
theorem dX10_truth_85 : decode cX10_truth 85 = .ok (.iadd, 1) := by decide +kernel
theorem dX10_truth_86 : decode cX10_truth 86 = .ok (.iaload, 1) := by decide +kernel
theorem dX10_truth_87 : decode cX10_truth 87 = .ok (.istore 6, 2) := by decide +kernel
theorem dX10_truth_89 : decode cX10_truth 89 = .ok (.aload_n 0, 1) := by decide +kernel
theorem dX10_truth_90 : decode cX10_truth 90 = .ok (.getfield 37, 3) := by decide +kernel
theorem dX10_truth_93 : decode cX10_truth 93 = .ok (.bipush 6, 2) := by decide +kernel
theorem dX10_truth_95 : decode cX10_truth 95 = .ok (.iload 5, 2) := by decide +kernel
theorem dX10_truth_97 : decode cX10_truth 97 = .ok (.imul, 1) := by decide +kernel
theorem dX10_truth_98 : decode cX10_truth 98 = .ok (.iload_n 3, 1) := by decide +kernel
theorem dX10_truth_99 : decode cX10_truth 99 = .ok (.iadd, 1) := by decide +kernel
theorem dX10_truth_100 : decode cX10_truth 100 = .ok (.iload 4, 2) := by decide +kernel
theorem dX10_truth_102 : decode cX10_truth 102 = .ok (.ifCond .eq 7, 3) := by decide +kernel
theorem dX10_truth_105 : decode cX10_truth 105 = .ok (.iconst 1, 1) := by decide +kernel
theorem dX10_truth_106 : decode cX10_truth 106 = .ok (.goto 4, 3) := by decide +kernel
theorem dX10_truth_109 : decode cX10_truth 109 = .ok (.iconst 0, 1) := by decide +kernel
theorem dX10_truth_110 : decode cX10_truth 110 = .ok (.iastore, 1) := by decide +kernel
theorem dX10_truth_111 : decode cX10_truth 111 = .ok (.aload_n 0, 1) := by decide +kernel
theorem dX10_truth_112 : decode cX10_truth 112 = .ok (.iload_n 1, 1) := by decide +kernel
theorem dX10_truth_113 : decode cX10_truth 113 = .ok (.invokevirtual 180, 3) := by decide +kernel
theorem dX10_truth_116 : decode cX10_truth 116 = .ok (.aload_n 0, 1) := by decide +kernel
theorem dX10_truth_117 : decode cX10_truth 117 = .ok (.iload 6, 2) := by decide +kernel
theorem dX10_truth_119 : decode cX10_truth 119 = .ok (.invokevirtual 183, 3) := by decide +kernel
theorem dX10_truth_122 : decode cX10_truth 122 = .ok (.ireturn, 1) := by decide +kernel
theorem dX10_copyTruths_0 : decode cX10_copyTruths 0 = .ok (.aload_n 0, 1) := by decide +kernel
theorem dX10_copyTruths_1 : decode cX10_copyTruths 1 = .ok (.iload_n 1, 1) := by decide +kernel
theorem dX10_copyTruths_2 : decode cX10_copyTruths 2 = .ok (.iload_n 2, 1) := by decide +kernel
theorem dX10_copyTruths_3 : decode cX10_copyTruths 3 = .ok (.invokevirtual 213, 3) := by decide +kernel
theorem dX10_copyTruths_6 : decode cX10_copyTruths 6 = .ok (.ifCond .eq 13, 3) := by decide +kernel
theorem dX10_copyTruths_9 : decode cX10_copyTruths 9 = .ok (.aload_n 0, 1) := by decide +kernel
theorem dX10_copyTruths_10 : decode cX10_copyTruths 10 = .ok (.iload_n 1, 1) := by decide +kernel
theorem dX10_copyTruths_11 : decode cX10_copyTruths 11 = .ok (.iload 4, 2) := by decide +kernel
theorem dX10_copyTruths_13 : decode cX10_copyTruths 13 = .ok (.invokevirtual 213, 3) := by decide +kernel
theorem dX10_copyTruths_16 : decode cX10_copyTruths 16 = .ok (.ifCond .ne 10, 3) := by decide +kernel
theorem dX10_copyTruths_19 : decode cX10_copyTruths 19 = .ok (.aload_n 0, 1) := by decide +kernel
theorem dX10_copyTruths_20 : decode cX10_copyTruths 20 = .ok (.bipush (-2), 2) := by decide +kernel
theorem dX10_copyTruths_22 : decode cX10_copyTruths 22 = .ok (.invokevirtual 173, 3) := by decide +kernel
theorem dX10_copyTruths_25 : decode cX10_copyTruths 25 = .ok (.ireturn, 1) := by decide +kernel
theorem dX10_copyTruths_26 : decode cX10_copyTruths 26 = .ok (.bipush 40, 2) := by decide +kernel
theorem dX10_copyTruths_28 : decode cX10_copyTruths 28 = .ok (.iload_n 1, 1) := by decide +kernel
theorem dX10_copyTruths_29 : decode cX10_copyTruths 29 = .ok (.imul, 1) := by decide +kernel
theorem dX10_copyTruths_30 : decode cX10_copyTruths 30 = .ok (.iload_n 2, 1) := by decide +kernel
theorem dX10_copyTruths_31 : decode cX10_copyTruths 31 = .ok (.iadd, 1) := by decide +kernel
theorem dX10_copyTruths_32 : decode cX10_copyTruths 32 = .ok (.istore 7, 2) := by decide +kernel
theorem dX10_copyTruths_34 : decode cX10_copyTruths 34 = .ok (.bipush 40, 2) := by decide +kernel
theorem dX10_copyTruths_36 : decode cX10_copyTruths 36 = .ok (.iload_n 1, 1) := by decide +kernel
theorem dX10_copyTruths_37 : decode cX10_copyTruths 37 = .ok (.imul, 1) := by decide +kernel
theorem dX10_copyTruths_38 : decode cX10_copyTruths 38 = .ok (.iload 4, 2) := by decide +kernel
theorem dX10_copyTruths_40 : decode cX10_copyTruths 40 = .ok (.iadd, 1) := by decide +kernel
theorem dX10_copyTruths_41 : decode cX10_copyTruths 41 = .ok (.istore 8, 2) := by decide +kernel
theorem dX10_copyTruths_43 : decode cX10_copyTruths 43 = .ok (.aload_n 0, 1) := by decide +kernel
theorem dX10_copyTruths_44 : decode cX10_copyTruths 44 = .ok (.getfield 34, 3) := by decide +kernel
theorem dX10_copyTruths_47 : decode cX10_copyTruths 47 = .ok (.iload 7, 2) := by decide +kernel
theorem dX10_copyTruths_49 : decode cX10_copyTruths 49 = .ok (.iaload, 1) := by decide +kernel
theorem dX10_copyTruths_50 : decode cX10_copyTruths 50 = .ok (.iconst (-1), 1) := by decide +kernel
theorem dX10_copyTruths_51 : decode cX10_copyTruths 51 = .ok (.if_icmp .eq 14, 3) := by decide +kernel
theorem dX10_copyTruths_54 : decode cX10_copyTruths 54 = .ok (.aload_n 0, 1) := by decide +kernel
theorem dX10_copyTruths_55 : decode cX10_copyTruths 55 = .ok (.getfield 34, 3) := by decide +kernel
theorem dX10_copyTruths_58 : decode cX10_copyTruths 58 = .ok (.iload 8, 2) := by decide +kernel
theorem dX10_copyTruths_60 : decode cX10_copyTruths 60 = .ok (.iaload, 1) := by decide +kernel
theorem dX10_copyTruths_61 : decode cX10_copyTruths 61 = .ok (.iconst (-1), 1) := by decide +kernel
theorem dX10_copyTruths_62 : decode cX10_copyTruths 62 = .ok (.if_icmp .ne 9, 3) := by decide +kernel
theorem dX10_copyTruths_65 : decode cX10_copyTruths 65 = .ok (.aload_n 0, 1) := by decide +kernel
theorem dX10_copyTruths_66 : decode cX10_copyTruths 66 = .ok (.iconst 1, 1) := by decide +kernel
theorem dX10_copyTruths_67 : decode cX10_copyTruths 67 = .ok (.invokevirtual 177, 3) := by decide +kernel
theorem dX10_copyTruths_70 : decode cX10_copyTruths 70 = .ok (.ireturn, 1) := by decide +kernel
theorem dX10_copyTruths_71 : decode cX10_copyTruths 71 = .ok (.iload_n 3, 1) := by decide +kernel
theorem dX10_copyTruths_72 : decode cX10_copyTruths 72 = .ok (.ifCond .lt 50, 3) := by decide +kernel
theorem dX10_copyTruths_75 : decode cX10_copyTruths 75 = .ok (.iload 5, 2) := by decide +kernel
theorem dX10_copyTruths_77 : decode cX10_copyTruths 77 = .ok (.ifCond .lt 45, 3) := by decide +kernel
theorem dX10_copyTruths_80 : decode cX10_copyTruths 80 = .ok (.iload 6, 2) := by decide +kernel
theorem dX10_copyTruths_82 : decode cX10_copyTruths 82 = .ok (.ifCond .lt 40, 3) := by decide +kernel
theorem dX10_copyTruths_85 : decode cX10_copyTruths 85 = .ok (.iload_n 3, 1) := by decide +kernel
theorem dX10_copyTruths_86 : decode cX10_copyTruths 86 = .ok (.i2l, 1) := by decide +kernel
theorem dX10_copyTruths_87 : decode cX10_copyTruths 87 = .ok (.iload 6, 2) := by decide +kernel
theorem dX10_copyTruths_89 : decode cX10_copyTruths 89 = .ok (.i2l, 1) := by decide +kernel
theorem dX10_copyTruths_90 : decode cX10_copyTruths 90 = .ok (.ladd, 1) := by decide +kernel
theorem dX10_copyTruths_91 : decode cX10_copyTruths 91 = .ok (.aload_n 0, 1) := by decide +kernel
theorem dX10_copyTruths_92 : decode cX10_copyTruths 92 = .ok (.getfield 34, 3) := by decide +kernel
theorem dX10_copyTruths_95 : decode cX10_copyTruths 95 = .ok (.iload 7, 2) := by decide +kernel
theorem dX10_copyTruths_97 : decode cX10_copyTruths 97 = .ok (.iaload, 1) := by decide +kernel
theorem dX10_copyTruths_98 : decode cX10_copyTruths 98 = .ok (.i2l, 1) := by decide +kernel
theorem dX10_copyTruths_99 : decode cX10_copyTruths 99 = .ok (.lcmp, 1) := by decide +kernel
theorem dX10_copyTruths_100 : decode cX10_copyTruths 100 = .ok (.ifCond .gt 22, 3) := by decide +kernel
theorem dX10_copyTruths_103 : decode cX10_copyTruths 103 = .ok (.iload 5, 2) := by decide +kernel
theorem dX10_copyTruths_105 : decode cX10_copyTruths 105 = .ok (.i2l, 1) := by decide +kernel
theorem dX10_copyTruths_106 : decode cX10_copyTruths 106 = .ok (.iload 6, 2) := by decide +kernel
theorem dX10_copyTruths_108 : decode cX10_copyTruths 108 = .ok (.i2l, 1) := by decide +kernel
theorem dX10_copyTruths_109 : decode cX10_copyTruths 109 = .ok (.ladd, 1) := by decide +kernel
theorem dX10_copyTruths_110 : decode cX10_copyTruths 110 = .ok (.aload_n 0, 1) := by decide +kernel
theorem dX10_copyTruths_111 : decode cX10_copyTruths 111 = .ok (.getfield 34, 3) := by decide +kernel
theorem dX10_copyTruths_114 : decode cX10_copyTruths 114 = .ok (.iload 8, 2) := by decide +kernel
theorem dX10_copyTruths_116 : decode cX10_copyTruths 116 = .ok (.iaload, 1) := by decide +kernel
theorem dX10_copyTruths_117 : decode cX10_copyTruths 117 = .ok (.i2l, 1) := by decide +kernel
theorem dX10_copyTruths_118 : decode cX10_copyTruths 118 = .ok (.lcmp, 1) := by decide +kernel
theorem dX10_copyTruths_119 : decode cX10_copyTruths 119 = .ok (.ifCond .le 9, 3) := by decide +kernel
theorem dX10_copyTruths_122 : decode cX10_copyTruths 122 = .ok (.aload_n 0, 1) := by decide +kernel
theorem dX10_copyTruths_123 : decode cX10_copyTruths 123 = .ok (.iconst 2, 1) := by decide +kernel
theorem dX10_copyTruths_124 : decode cX10_copyTruths 124 = .ok (.invokevirtual 177, 3) := by decide +kernel
theorem dX10_copyTruths_127 : decode cX10_copyTruths 127 = .ok (.ireturn, 1) := by decide +kernel
theorem dX10_copyTruths_128 : decode cX10_copyTruths 128 = .ok (.iconst 0, 1) := by decide +kernel
theorem dX10_copyTruths_129 : decode cX10_copyTruths 129 = .ok (.istore 9, 2) := by decide +kernel
theorem dX10_copyTruths_131 : decode cX10_copyTruths 131 = .ok (.iload 9, 2) := by decide +kernel
theorem dX10_copyTruths_133 : decode cX10_copyTruths 133 = .ok (.iload 6, 2) := by decide +kernel
theorem dX10_copyTruths_135 : decode cX10_copyTruths 135 = .ok (.if_icmp .ge 32, 3) := by decide +kernel
theorem dX10_copyTruths_138 : decode cX10_copyTruths 138 = .ok (.aload_n 0, 1) := by decide +kernel
theorem dX10_copyTruths_139 : decode cX10_copyTruths 139 = .ok (.getfield 55, 3) := by decide +kernel
theorem dX10_copyTruths_142 : decode cX10_copyTruths 142 = .ok (.iload 9, 2) := by decide +kernel
theorem dX10_copyTruths_144 : decode cX10_copyTruths 144 = .ok (.aload_n 0, 1) := by decide +kernel
theorem dX10_copyTruths_145 : decode cX10_copyTruths 145 = .ok (.getfield 37, 3) := by decide +kernel
theorem dX10_copyTruths_148 : decode cX10_copyTruths 148 = .ok (.bipush 6, 2) := by decide +kernel
theorem dX10_copyTruths_150 : decode cX10_copyTruths 150 = .ok (.iload 8, 2) := by decide +kernel
theorem dX10_copyTruths_152 : decode cX10_copyTruths 152 = .ok (.imul, 1) := by decide +kernel
theorem dX10_copyTruths_153 : decode cX10_copyTruths 153 = .ok (.iload 5, 2) := by decide +kernel
theorem dX10_copyTruths_155 : decode cX10_copyTruths 155 = .ok (.iadd, 1) := by decide +kernel
theorem dX10_copyTruths_156 : decode cX10_copyTruths 156 = .ok (.iload 9, 2) := by decide +kernel
theorem dX10_copyTruths_158 : decode cX10_copyTruths 158 = .ok (.iadd, 1) := by decide +kernel
theorem dX10_copyTruths_159 : decode cX10_copyTruths 159 = .ok (.iaload, 1) := by decide +kernel
theorem dX10_copyTruths_160 : decode cX10_copyTruths 160 = .ok (.iastore, 1) := by decide +kernel
theorem dX10_copyTruths_161 : decode cX10_copyTruths 161 = .ok (.iinc 9 1, 3) := by decide +kernel
theorem dX10_copyTruths_164 : decode cX10_copyTruths 164 = .ok (.goto (-33), 3) := by decide +kernel
theorem dX10_copyTruths_167 : decode cX10_copyTruths 167 = .ok (.iconst 0, 1) := by decide +kernel
theorem dX10_copyTruths_168 : decode cX10_copyTruths 168 = .ok (.istore 9, 2) := by decide +kernel
theorem dX10_copyTruths_170 : decode cX10_copyTruths 170 = .ok (.iload 9, 2) := by decide +kernel
theorem dX10_copyTruths_172 : decode cX10_copyTruths 172 = .ok (.iload 6, 2) := by decide +kernel
theorem dX10_copyTruths_174 : decode cX10_copyTruths 174 = .ok (.if_icmp .ge 31, 3) := by decide +kernel
theorem dX10_copyTruths_177 : decode cX10_copyTruths 177 = .ok (.aload_n 0, 1) := by decide +kernel
theorem dX10_copyTruths_178 : decode cX10_copyTruths 178 = .ok (.getfield 37, 3) := by decide +kernel
theorem dX10_copyTruths_181 : decode cX10_copyTruths 181 = .ok (.bipush 6, 2) := by decide +kernel
theorem dX10_copyTruths_183 : decode cX10_copyTruths 183 = .ok (.iload 7, 2) := by decide +kernel
theorem dX10_copyTruths_185 : decode cX10_copyTruths 185 = .ok (.imul, 1) := by decide +kernel
theorem dX10_copyTruths_186 : decode cX10_copyTruths 186 = .ok (.iload_n 3, 1) := by decide +kernel
theorem dX10_copyTruths_187 : decode cX10_copyTruths 187 = .ok (.iadd, 1) := by decide +kernel
theorem dX10_copyTruths_188 : decode cX10_copyTruths 188 = .ok (.iload 9, 2) := by decide +kernel
theorem dX10_copyTruths_190 : decode cX10_copyTruths 190 = .ok (.iadd, 1) := by decide +kernel
theorem dX10_copyTruths_191 : decode cX10_copyTruths 191 = .ok (.aload_n 0, 1) := by decide +kernel
theorem dX10_copyTruths_192 : decode cX10_copyTruths 192 = .ok (.getfield 55, 3) := by decide +kernel
theorem dX10_copyTruths_195 : decode cX10_copyTruths 195 = .ok (.iload 9, 2) := by decide +kernel
theorem dX10_copyTruths_197 : decode cX10_copyTruths 197 = .ok (.iaload, 1) := by decide +kernel
theorem dX10_copyTruths_198 : decode cX10_copyTruths 198 = .ok (.iastore, 1) := by decide +kernel
theorem dX10_copyTruths_199 : decode cX10_copyTruths 199 = .ok (.iinc 9 1, 3) := by decide +kernel
theorem dX10_copyTruths_202 : decode cX10_copyTruths 202 = .ok (.goto (-32), 3) := by decide +kernel
theorem dX10_copyTruths_205 : decode cX10_copyTruths 205 = .ok (.aload_n 0, 1) := by decide +kernel
theorem dX10_copyTruths_206 : decode cX10_copyTruths 206 = .ok (.iload_n 1, 1) := by decide +kernel
theorem dX10_copyTruths_207 : decode cX10_copyTruths 207 = .ok (.invokevirtual 180, 3) := by decide +kernel
theorem dX10_copyTruths_210 : decode cX10_copyTruths 210 = .ok (.aload_n 0, 1) := by decide +kernel
theorem dX10_copyTruths_211 : decode cX10_copyTruths 211 = .ok (.iload 6, 2) := by decide +kernel
theorem dX10_copyTruths_213 : decode cX10_copyTruths 213 = .ok (.invokevirtual 183, 3) := by decide +kernel
theorem dX10_copyTruths_216 : decode cX10_copyTruths 216 = .ok (.ireturn, 1) := by decide +kernel
theorem dX10_jam_0 : decode cX10_jam 0 = .ok (.iload_n 1, 1) := by decide +kernel
theorem dX10_jam_1 : decode cX10_jam 1 = .ok (.invokestatic 167, 3) := by decide +kernel
theorem dX10_jam_4 : decode cX10_jam 4 = .ok (.ifCond .ne 10, 3) := by decide +kernel
theorem dX10_jam_7 : decode cX10_jam 7 = .ok (.aload_n 0, 1) := by decide +kernel
theorem dX10_jam_8 : decode cX10_jam 8 = .ok (.bipush (-2), 2) := by decide +kernel
theorem dX10_jam_10 : decode cX10_jam 10 = .ok (.invokevirtual 173, 3) := by decide +kernel
theorem dX10_jam_13 : decode cX10_jam 13 = .ok (.ireturn, 1) := by decide +kernel
theorem dX10_jam_14 : decode cX10_jam 14 = .ok (.iload_n 2, 1) := by decide +kernel
theorem dX10_jam_15 : decode cX10_jam 15 = .ok (.i2l, 1) := by decide +kernel
theorem dX10_jam_16 : decode cX10_jam 16 = .ok (.lconst 0, 1) := by decide +kernel
theorem dX10_jam_17 : decode cX10_jam 17 = .ok (.ldc2_w 217, 3) := by decide +kernel
theorem dX10_jam_20 : decode cX10_jam 20 = .ok (.invokestatic 152, 3) := by decide +kernel
theorem dX10_jam_23 : decode cX10_jam 23 = .ok (.ifCond .eq 17, 3) := by decide +kernel
theorem dX10_jam_26 : decode cX10_jam 26 = .ok (.iload_n 3, 1) := by decide +kernel
theorem dX10_jam_27 : decode cX10_jam 27 = .ok (.i2l, 1) := by decide +kernel
theorem dX10_jam_28 : decode cX10_jam 28 = .ok (.ldc2_w 207, 3) := by decide +kernel
theorem dX10_jam_31 : decode cX10_jam 31 = .ok (.ldc2_w 156, 3) := by decide +kernel
theorem dX10_jam_34 : decode cX10_jam 34 = .ok (.invokestatic 152, 3) := by decide +kernel
theorem dX10_jam_37 : decode cX10_jam 37 = .ok (.ifCond .ne 10, 3) := by decide +kernel
theorem dX10_jam_40 : decode cX10_jam 40 = .ok (.aload_n 0, 1) := by decide +kernel
theorem dX10_jam_41 : decode cX10_jam 41 = .ok (.bipush (-3), 2) := by decide +kernel
theorem dX10_jam_43 : decode cX10_jam 43 = .ok (.invokevirtual 173, 3) := by decide +kernel
theorem dX10_jam_46 : decode cX10_jam 46 = .ok (.ireturn, 1) := by decide +kernel
theorem dX10_jam_47 : decode cX10_jam 47 = .ok (.aload_n 0, 1) := by decide +kernel
theorem dX10_jam_48 : decode cX10_jam 48 = .ok (.getfield 40, 3) := by decide +kernel
theorem dX10_jam_51 : decode cX10_jam 51 = .ok (.iload_n 1, 1) := by decide +kernel
theorem dX10_jam_52 : decode cX10_jam 52 = .ok (.iaload, 1) := by decide +kernel
theorem dX10_jam_53 : decode cX10_jam 53 = .ok (.istore 4, 2) := by decide +kernel
theorem dX10_jam_55 : decode cX10_jam 55 = .ok (.aload_n 0, 1) := by decide +kernel
theorem dX10_jam_56 : decode cX10_jam 56 = .ok (.getfield 40, 3) := by decide +kernel
theorem dX10_jam_59 : decode cX10_jam 59 = .ok (.iload_n 1, 1) := by decide +kernel
theorem dX10_jam_60 : decode cX10_jam 60 = .ok (.iload_n 2, 1) := by decide +kernel
theorem dX10_jam_61 : decode cX10_jam 61 = .ok (.iastore, 1) := by decide +kernel
theorem dX10_jam_62 : decode cX10_jam 62 = .ok (.aload_n 0, 1) := by decide +kernel
theorem dX10_jam_63 : decode cX10_jam 63 = .ok (.getfield 43, 3) := by decide +kernel
theorem dX10_jam_66 : decode cX10_jam 66 = .ok (.iload_n 1, 1) := by decide +kernel
theorem dX10_jam_67 : decode cX10_jam 67 = .ok (.iload_n 3, 1) := by decide +kernel
theorem dX10_jam_68 : decode cX10_jam 68 = .ok (.iastore, 1) := by decide +kernel
theorem dX10_jam_69 : decode cX10_jam 69 = .ok (.aload_n 0, 1) := by decide +kernel
theorem dX10_jam_70 : decode cX10_jam 70 = .ok (.iload 4, 2) := by decide +kernel
theorem dX10_jam_72 : decode cX10_jam 72 = .ok (.invokevirtual 183, 3) := by decide +kernel
theorem dX10_jam_75 : decode cX10_jam 75 = .ok (.ireturn, 1) := by decide +kernel
theorem dX10_clear_0 : decode cX10_clear 0 = .ok (.iload_n 1, 1) := by decide +kernel
theorem dX10_clear_1 : decode cX10_clear 1 = .ok (.invokestatic 167, 3) := by decide +kernel
theorem dX10_clear_4 : decode cX10_clear 4 = .ok (.ifCond .ne 10, 3) := by decide +kernel
theorem dX10_clear_7 : decode cX10_clear 7 = .ok (.aload_n 0, 1) := by decide +kernel
theorem dX10_clear_8 : decode cX10_clear 8 = .ok (.bipush (-2), 2) := by decide +kernel
theorem dX10_clear_10 : decode cX10_clear 10 = .ok (.invokevirtual 173, 3) := by decide +kernel
theorem dX10_clear_13 : decode cX10_clear 13 = .ok (.ireturn, 1) := by decide +kernel
theorem dX10_clear_14 : decode cX10_clear 14 = .ok (.aload_n 0, 1) := by decide +kernel
theorem dX10_clear_15 : decode cX10_clear 15 = .ok (.iload_n 1, 1) := by decide +kernel
theorem dX10_clear_16 : decode cX10_clear 16 = .ok (.invokevirtual 201, 3) := by decide +kernel
theorem dX10_clear_19 : decode cX10_clear 19 = .ok (.istore_n 2, 1) := by decide +kernel
theorem dX10_clear_20 : decode cX10_clear 20 = .ok (.aload_n 0, 1) := by decide +kernel
theorem dX10_clear_21 : decode cX10_clear 21 = .ok (.iload_n 1, 1) := by decide +kernel
theorem dX10_clear_22 : decode cX10_clear 22 = .ok (.invokevirtual 127, 3) := by decide +kernel
theorem dX10_clear_25 : decode cX10_clear 25 = .ok (.aload_n 0, 1) := by decide +kernel
theorem dX10_clear_26 : decode cX10_clear 26 = .ok (.iload_n 1, 1) := by decide +kernel
theorem dX10_clear_27 : decode cX10_clear 27 = .ok (.invokevirtual 180, 3) := by decide +kernel
theorem dX10_clear_30 : decode cX10_clear 30 = .ok (.aload_n 0, 1) := by decide +kernel
theorem dX10_clear_31 : decode cX10_clear 31 = .ok (.iload_n 2, 1) := by decide +kernel
theorem dX10_clear_32 : decode cX10_clear 32 = .ok (.invokevirtual 183, 3) := by decide +kernel
theorem dX10_clear_35 : decode cX10_clear 35 = .ok (.ireturn, 1) := by decide +kernel
theorem dX10_copy_0 : decode cX10_copy 0 = .ok (.iload_n 1, 1) := by decide +kernel
theorem dX10_copy_1 : decode cX10_copy 1 = .ok (.invokestatic 167, 3) := by decide +kernel
theorem dX10_copy_4 : decode cX10_copy 4 = .ok (.ifCond .eq 10, 3) := by decide +kernel
theorem dX10_copy_7 : decode cX10_copy 7 = .ok (.iload_n 2, 1) := by decide +kernel
theorem dX10_copy_8 : decode cX10_copy 8 = .ok (.invokestatic 167, 3) := by decide +kernel
theorem dX10_copy_11 : decode cX10_copy 11 = .ok (.ifCond .ne 10, 3) := by decide +kernel
theorem dX10_copy_14 : decode cX10_copy 14 = .ok (.aload_n 0, 1) := by decide +kernel
theorem dX10_copy_15 : decode cX10_copy 15 = .ok (.bipush (-2), 2) := by decide +kernel
theorem dX10_copy_17 : decode cX10_copy 17 = .ok (.invokevirtual 173, 3) := by decide +kernel
theorem dX10_copy_20 : decode cX10_copy 20 = .ok (.ireturn, 1) := by decide +kernel
theorem dX10_copy_21 : decode cX10_copy 21 = .ok (.aload_n 0, 1) := by decide +kernel
theorem dX10_copy_22 : decode cX10_copy 22 = .ok (.iload_n 1, 1) := by decide +kernel
theorem dX10_copy_23 : decode cX10_copy 23 = .ok (.iload_n 2, 1) := by decide +kernel
theorem dX10_copy_24 : decode cX10_copy 24 = .ok (.iconst 1, 1) := by decide +kernel
theorem dX10_copy_25 : decode cX10_copy 25 = .ok (.invokevirtual 219, 3) := by decide +kernel
theorem dX10_copy_28 : decode cX10_copy 28 = .ok (.aload_n 0, 1) := by decide +kernel
theorem dX10_copy_29 : decode cX10_copy 29 = .ok (.iload_n 2, 1) := by decide +kernel
theorem dX10_copy_30 : decode cX10_copy 30 = .ok (.invokevirtual 180, 3) := by decide +kernel
theorem dX10_copy_33 : decode cX10_copy 33 = .ok (.aload_n 0, 1) := by decide +kernel
theorem dX10_copy_34 : decode cX10_copy 34 = .ok (.aload_n 0, 1) := by decide +kernel
theorem dX10_copy_35 : decode cX10_copy 35 = .ok (.iload_n 2, 1) := by decide +kernel
theorem dX10_copy_36 : decode cX10_copy 36 = .ok (.invokevirtual 201, 3) := by decide +kernel
theorem dX10_copy_39 : decode cX10_copy 39 = .ok (.invokevirtual 183, 3) := by decide +kernel
theorem dX10_copy_42 : decode cX10_copy 42 = .ok (.ireturn, 1) := by decide +kernel
theorem dX10_copyTo_0 : decode cX10_copyTo 0 = .ok (.iconst 0, 1) := by decide +kernel
theorem dX10_copyTo_1 : decode cX10_copyTo 1 = .ok (.istore 4, 2) := by decide +kernel
theorem dX10_copyTo_3 : decode cX10_copyTo 3 = .ok (.iload 4, 2) := by decide +kernel
theorem dX10_copyTo_5 : decode cX10_copyTo 5 = .ok (.iconst 4, 1) := by decide +kernel
theorem dX10_copyTo_6 : decode cX10_copyTo 6 = .ok (.if_icmp .ge 31, 3) := by decide +kernel
theorem dX10_copyTo_9 : decode cX10_copyTo 9 = .ok (.aload_n 0, 1) := by decide +kernel
theorem dX10_copyTo_10 : decode cX10_copyTo 10 = .ok (.getfield 7, 3) := by decide +kernel
theorem dX10_copyTo_13 : decode cX10_copyTo 13 = .ok (.iconst 4, 1) := by decide +kernel
theorem dX10_copyTo_14 : decode cX10_copyTo 14 = .ok (.iload_n 2, 1) := by decide +kernel
theorem dX10_copyTo_15 : decode cX10_copyTo 15 = .ok (.imul, 1) := by decide +kernel
theorem dX10_copyTo_16 : decode cX10_copyTo 16 = .ok (.iload 4, 2) := by decide +kernel
theorem dX10_copyTo_18 : decode cX10_copyTo 18 = .ok (.iadd, 1) := by decide +kernel
theorem dX10_copyTo_19 : decode cX10_copyTo 19 = .ok (.aload_n 0, 1) := by decide +kernel
theorem dX10_copyTo_20 : decode cX10_copyTo 20 = .ok (.getfield 7, 3) := by decide +kernel
theorem dX10_copyTo_23 : decode cX10_copyTo 23 = .ok (.iconst 4, 1) := by decide +kernel
theorem dX10_copyTo_24 : decode cX10_copyTo 24 = .ok (.iload_n 1, 1) := by decide +kernel
theorem dX10_copyTo_25 : decode cX10_copyTo 25 = .ok (.imul, 1) := by decide +kernel
theorem dX10_copyTo_26 : decode cX10_copyTo 26 = .ok (.iload 4, 2) := by decide +kernel
theorem dX10_copyTo_28 : decode cX10_copyTo 28 = .ok (.iadd, 1) := by decide +kernel
theorem dX10_copyTo_29 : decode cX10_copyTo 29 = .ok (.iaload, 1) := by decide +kernel
theorem dX10_copyTo_30 : decode cX10_copyTo 30 = .ok (.iastore, 1) := by decide +kernel
theorem dX10_copyTo_31 : decode cX10_copyTo 31 = .ok (.iinc 4 1, 3) := by decide +kernel
theorem dX10_copyTo_34 : decode cX10_copyTo 34 = .ok (.goto (-31), 3) := by decide +kernel
theorem dX10_copyTo_37 : decode cX10_copyTo 37 = .ok (.iconst 0, 1) := by decide +kernel
theorem dX10_copyTo_38 : decode cX10_copyTo 38 = .ok (.istore 4, 2) := by decide +kernel
theorem dX10_copyTo_40 : decode cX10_copyTo 40 = .ok (.iload 4, 2) := by decide +kernel
theorem dX10_copyTo_42 : decode cX10_copyTo 42 = .ok (.bipush 16, 2) := by decide +kernel
theorem dX10_copyTo_44 : decode cX10_copyTo 44 = .ok (.if_icmp .ge 105, 3) := by decide +kernel
theorem dX10_copyTo_47 : decode cX10_copyTo 47 = .ok (.aload_n 0, 1) := by decide +kernel
theorem dX10_copyTo_48 : decode cX10_copyTo 48 = .ok (.getfield 13, 3) := by decide +kernel
theorem dX10_copyTo_51 : decode cX10_copyTo 51 = .ok (.bipush 16, 2) := by decide +kernel
theorem dX10_copyTo_53 : decode cX10_copyTo 53 = .ok (.iload_n 2, 1) := by decide +kernel
theorem dX10_copyTo_54 : decode cX10_copyTo 54 = .ok (.imul, 1) := by decide +kernel
theorem dX10_copyTo_55 : decode cX10_copyTo 55 = .ok (.iload 4, 2) := by decide +kernel
theorem dX10_copyTo_57 : decode cX10_copyTo 57 = .ok (.iadd, 1) := by decide +kernel
theorem dX10_copyTo_58 : decode cX10_copyTo 58 = .ok (.aload_n 0, 1) := by decide +kernel
theorem dX10_copyTo_59 : decode cX10_copyTo 59 = .ok (.getfield 13, 3) := by decide +kernel
theorem dX10_copyTo_62 : decode cX10_copyTo 62 = .ok (.bipush 16, 2) := by decide +kernel
theorem dX10_copyTo_64 : decode cX10_copyTo 64 = .ok (.iload_n 1, 1) := by decide +kernel
theorem dX10_copyTo_65 : decode cX10_copyTo 65 = .ok (.imul, 1) := by decide +kernel
theorem dX10_copyTo_66 : decode cX10_copyTo 66 = .ok (.iload 4, 2) := by decide +kernel
theorem dX10_copyTo_68 : decode cX10_copyTo 68 = .ok (.iadd, 1) := by decide +kernel
theorem dX10_copyTo_69 : decode cX10_copyTo 69 = .ok (.iaload, 1) := by decide +kernel
theorem dX10_copyTo_70 : decode cX10_copyTo 70 = .ok (.iastore, 1) := by decide +kernel
theorem dX10_copyTo_71 : decode cX10_copyTo 71 = .ok (.aload_n 0, 1) := by decide +kernel
theorem dX10_copyTo_72 : decode cX10_copyTo 72 = .ok (.getfield 16, 3) := by decide +kernel
theorem dX10_copyTo_75 : decode cX10_copyTo 75 = .ok (.bipush 16, 2) := by decide +kernel
theorem dX10_copyTo_77 : decode cX10_copyTo 77 = .ok (.iload_n 2, 1) := by decide +kernel
theorem dX10_copyTo_78 : decode cX10_copyTo 78 = .ok (.imul, 1) := by decide +kernel
theorem dX10_copyTo_79 : decode cX10_copyTo 79 = .ok (.iload 4, 2) := by decide +kernel
theorem dX10_copyTo_81 : decode cX10_copyTo 81 = .ok (.iadd, 1) := by decide +kernel
theorem dX10_copyTo_82 : decode cX10_copyTo 82 = .ok (.aload_n 0, 1) := by decide +kernel
theorem dX10_copyTo_83 : decode cX10_copyTo 83 = .ok (.getfield 16, 3) := by decide +kernel
theorem dX10_copyTo_86 : decode cX10_copyTo 86 = .ok (.bipush 16, 2) := by decide +kernel
theorem dX10_copyTo_88 : decode cX10_copyTo 88 = .ok (.iload_n 1, 1) := by decide +kernel
theorem dX10_copyTo_89 : decode cX10_copyTo 89 = .ok (.imul, 1) := by decide +kernel
theorem dX10_copyTo_90 : decode cX10_copyTo 90 = .ok (.iload 4, 2) := by decide +kernel
theorem dX10_copyTo_92 : decode cX10_copyTo 92 = .ok (.iadd, 1) := by decide +kernel
theorem dX10_copyTo_93 : decode cX10_copyTo 93 = .ok (.iaload, 1) := by decide +kernel
theorem dX10_copyTo_94 : decode cX10_copyTo 94 = .ok (.iastore, 1) := by decide +kernel
theorem dX10_copyTo_95 : decode cX10_copyTo 95 = .ok (.aload_n 0, 1) := by decide +kernel
theorem dX10_copyTo_96 : decode cX10_copyTo 96 = .ok (.getfield 19, 3) := by decide +kernel
theorem dX10_copyTo_99 : decode cX10_copyTo 99 = .ok (.bipush 16, 2) := by decide +kernel
theorem dX10_copyTo_101 : decode cX10_copyTo 101 = .ok (.iload_n 2, 1) := by decide +kernel
theorem dX10_copyTo_102 : decode cX10_copyTo 102 = .ok (.imul, 1) := by decide +kernel
theorem dX10_copyTo_103 : decode cX10_copyTo 103 = .ok (.iload 4, 2) := by decide +kernel
theorem dX10_copyTo_105 : decode cX10_copyTo 105 = .ok (.iadd, 1) := by decide +kernel
theorem dX10_copyTo_106 : decode cX10_copyTo 106 = .ok (.aload_n 0, 1) := by decide +kernel
theorem dX10_copyTo_107 : decode cX10_copyTo 107 = .ok (.getfield 19, 3) := by decide +kernel
theorem dX10_copyTo_110 : decode cX10_copyTo 110 = .ok (.bipush 16, 2) := by decide +kernel
theorem dX10_copyTo_112 : decode cX10_copyTo 112 = .ok (.iload_n 1, 1) := by decide +kernel
theorem dX10_copyTo_113 : decode cX10_copyTo 113 = .ok (.imul, 1) := by decide +kernel
theorem dX10_copyTo_114 : decode cX10_copyTo 114 = .ok (.iload 4, 2) := by decide +kernel
theorem dX10_copyTo_116 : decode cX10_copyTo 116 = .ok (.iadd, 1) := by decide +kernel
theorem dX10_copyTo_117 : decode cX10_copyTo 117 = .ok (.iaload, 1) := by decide +kernel
theorem dX10_copyTo_118 : decode cX10_copyTo 118 = .ok (.iastore, 1) := by decide +kernel
theorem dX10_copyTo_119 : decode cX10_copyTo 119 = .ok (.aload_n 0, 1) := by decide +kernel
theorem dX10_copyTo_120 : decode cX10_copyTo 120 = .ok (.getfield 22, 3) := by decide +kernel
theorem dX10_copyTo_123 : decode cX10_copyTo 123 = .ok (.bipush 16, 2) := by decide +kernel
theorem dX10_copyTo_125 : decode cX10_copyTo 125 = .ok (.iload_n 2, 1) := by decide +kernel
theorem dX10_copyTo_126 : decode cX10_copyTo 126 = .ok (.imul, 1) := by decide +kernel
theorem dX10_copyTo_127 : decode cX10_copyTo 127 = .ok (.iload 4, 2) := by decide +kernel
theorem dX10_copyTo_129 : decode cX10_copyTo 129 = .ok (.iadd, 1) := by decide +kernel
theorem dX10_copyTo_130 : decode cX10_copyTo 130 = .ok (.aload_n 0, 1) := by decide +kernel
theorem dX10_copyTo_131 : decode cX10_copyTo 131 = .ok (.getfield 22, 3) := by decide +kernel
theorem dX10_copyTo_134 : decode cX10_copyTo 134 = .ok (.bipush 16, 2) := by decide +kernel
theorem dX10_copyTo_136 : decode cX10_copyTo 136 = .ok (.iload_n 1, 1) := by decide +kernel
theorem dX10_copyTo_137 : decode cX10_copyTo 137 = .ok (.imul, 1) := by decide +kernel
theorem dX10_copyTo_138 : decode cX10_copyTo 138 = .ok (.iload 4, 2) := by decide +kernel
theorem dX10_copyTo_140 : decode cX10_copyTo 140 = .ok (.iadd, 1) := by decide +kernel
theorem dX10_copyTo_141 : decode cX10_copyTo 141 = .ok (.iaload, 1) := by decide +kernel
theorem dX10_copyTo_142 : decode cX10_copyTo 142 = .ok (.iastore, 1) := by decide +kernel
theorem dX10_copyTo_143 : decode cX10_copyTo 143 = .ok (.iinc 4 1, 3) := by decide +kernel
theorem dX10_copyTo_146 : decode cX10_copyTo 146 = .ok (.goto (-106), 3) := by decide +kernel
theorem dX10_copyTo_149 : decode cX10_copyTo 149 = .ok (.aload_n 0, 1) := by decide +kernel
theorem dX10_copyTo_150 : decode cX10_copyTo 150 = .ok (.getfield 25, 3) := by decide +kernel
theorem dX10_copyTo_153 : decode cX10_copyTo 153 = .ok (.iload_n 2, 1) := by decide +kernel
theorem dX10_copyTo_154 : decode cX10_copyTo 154 = .ok (.aload_n 0, 1) := by decide +kernel
theorem dX10_copyTo_155 : decode cX10_copyTo 155 = .ok (.getfield 25, 3) := by decide +kernel
theorem dX10_copyTo_158 : decode cX10_copyTo 158 = .ok (.iload_n 1, 1) := by decide +kernel
theorem dX10_copyTo_159 : decode cX10_copyTo 159 = .ok (.iaload, 1) := by decide +kernel
theorem dX10_copyTo_160 : decode cX10_copyTo 160 = .ok (.iastore, 1) := by decide +kernel
theorem dX10_copyTo_161 : decode cX10_copyTo 161 = .ok (.iconst 0, 1) := by decide +kernel
theorem dX10_copyTo_162 : decode cX10_copyTo 162 = .ok (.istore 4, 2) := by decide +kernel
theorem dX10_copyTo_164 : decode cX10_copyTo 164 = .ok (.iload 4, 2) := by decide +kernel
theorem dX10_copyTo_166 : decode cX10_copyTo 166 = .ok (.bipush 40, 2) := by decide +kernel
theorem dX10_copyTo_168 : decode cX10_copyTo 168 = .ok (.if_icmp .ge 81, 3) := by decide +kernel
theorem dX10_copyTo_171 : decode cX10_copyTo 171 = .ok (.aload_n 0, 1) := by decide +kernel
theorem dX10_copyTo_172 : decode cX10_copyTo 172 = .ok (.getfield 28, 3) := by decide +kernel
theorem dX10_copyTo_175 : decode cX10_copyTo 175 = .ok (.bipush 40, 2) := by decide +kernel
theorem dX10_copyTo_177 : decode cX10_copyTo 177 = .ok (.iload_n 2, 1) := by decide +kernel
theorem dX10_copyTo_178 : decode cX10_copyTo 178 = .ok (.imul, 1) := by decide +kernel
theorem dX10_copyTo_179 : decode cX10_copyTo 179 = .ok (.iload 4, 2) := by decide +kernel
theorem dX10_copyTo_181 : decode cX10_copyTo 181 = .ok (.iadd, 1) := by decide +kernel
theorem dX10_copyTo_182 : decode cX10_copyTo 182 = .ok (.aload_n 0, 1) := by decide +kernel
theorem dX10_copyTo_183 : decode cX10_copyTo 183 = .ok (.getfield 28, 3) := by decide +kernel
theorem dX10_copyTo_186 : decode cX10_copyTo 186 = .ok (.bipush 40, 2) := by decide +kernel
theorem dX10_copyTo_188 : decode cX10_copyTo 188 = .ok (.iload_n 1, 1) := by decide +kernel
theorem dX10_copyTo_189 : decode cX10_copyTo 189 = .ok (.imul, 1) := by decide +kernel
theorem dX10_copyTo_190 : decode cX10_copyTo 190 = .ok (.iload 4, 2) := by decide +kernel
theorem dX10_copyTo_192 : decode cX10_copyTo 192 = .ok (.iadd, 1) := by decide +kernel
theorem dX10_copyTo_193 : decode cX10_copyTo 193 = .ok (.iaload, 1) := by decide +kernel
theorem dX10_copyTo_194 : decode cX10_copyTo 194 = .ok (.iastore, 1) := by decide +kernel
theorem dX10_copyTo_195 : decode cX10_copyTo 195 = .ok (.aload_n 0, 1) := by decide +kernel
theorem dX10_copyTo_196 : decode cX10_copyTo 196 = .ok (.getfield 31, 3) := by decide +kernel
theorem dX10_copyTo_199 : decode cX10_copyTo 199 = .ok (.bipush 40, 2) := by decide +kernel
theorem dX10_copyTo_201 : decode cX10_copyTo 201 = .ok (.iload_n 2, 1) := by decide +kernel
theorem dX10_copyTo_202 : decode cX10_copyTo 202 = .ok (.imul, 1) := by decide +kernel
theorem dX10_copyTo_203 : decode cX10_copyTo 203 = .ok (.iload 4, 2) := by decide +kernel
theorem dX10_copyTo_205 : decode cX10_copyTo 205 = .ok (.iadd, 1) := by decide +kernel
theorem dX10_copyTo_206 : decode cX10_copyTo 206 = .ok (.aload_n 0, 1) := by decide +kernel
theorem dX10_copyTo_207 : decode cX10_copyTo 207 = .ok (.getfield 31, 3) := by decide +kernel
theorem dX10_copyTo_210 : decode cX10_copyTo 210 = .ok (.bipush 40, 2) := by decide +kernel
theorem dX10_copyTo_212 : decode cX10_copyTo 212 = .ok (.iload_n 1, 1) := by decide +kernel
theorem dX10_copyTo_213 : decode cX10_copyTo 213 = .ok (.imul, 1) := by decide +kernel
theorem dX10_copyTo_214 : decode cX10_copyTo 214 = .ok (.iload 4, 2) := by decide +kernel
theorem dX10_copyTo_216 : decode cX10_copyTo 216 = .ok (.iadd, 1) := by decide +kernel
theorem dX10_copyTo_217 : decode cX10_copyTo 217 = .ok (.iaload, 1) := by decide +kernel
theorem dX10_copyTo_218 : decode cX10_copyTo 218 = .ok (.iastore, 1) := by decide +kernel
theorem dX10_copyTo_219 : decode cX10_copyTo 219 = .ok (.aload_n 0, 1) := by decide +kernel
theorem dX10_copyTo_220 : decode cX10_copyTo 220 = .ok (.getfield 34, 3) := by decide +kernel
theorem dX10_copyTo_223 : decode cX10_copyTo 223 = .ok (.bipush 40, 2) := by decide +kernel
theorem dX10_copyTo_225 : decode cX10_copyTo 225 = .ok (.iload_n 2, 1) := by decide +kernel
theorem dX10_copyTo_226 : decode cX10_copyTo 226 = .ok (.imul, 1) := by decide +kernel
theorem dX10_copyTo_227 : decode cX10_copyTo 227 = .ok (.iload 4, 2) := by decide +kernel
theorem dX10_copyTo_229 : decode cX10_copyTo 229 = .ok (.iadd, 1) := by decide +kernel
theorem dX10_copyTo_230 : decode cX10_copyTo 230 = .ok (.aload_n 0, 1) := by decide +kernel
theorem dX10_copyTo_231 : decode cX10_copyTo 231 = .ok (.getfield 34, 3) := by decide +kernel
theorem dX10_copyTo_234 : decode cX10_copyTo 234 = .ok (.bipush 40, 2) := by decide +kernel
theorem dX10_copyTo_236 : decode cX10_copyTo 236 = .ok (.iload_n 1, 1) := by decide +kernel
theorem dX10_copyTo_237 : decode cX10_copyTo 237 = .ok (.imul, 1) := by decide +kernel
theorem dX10_copyTo_238 : decode cX10_copyTo 238 = .ok (.iload 4, 2) := by decide +kernel
theorem dX10_copyTo_240 : decode cX10_copyTo 240 = .ok (.iadd, 1) := by decide +kernel
theorem dX10_copyTo_241 : decode cX10_copyTo 241 = .ok (.iaload, 1) := by decide +kernel
theorem dX10_copyTo_242 : decode cX10_copyTo 242 = .ok (.iastore, 1) := by decide +kernel
theorem dX10_copyTo_243 : decode cX10_copyTo 243 = .ok (.iinc 4 1, 3) := by decide +kernel
theorem dX10_copyTo_246 : decode cX10_copyTo 246 = .ok (.goto (-82), 3) := by decide +kernel
theorem dX10_copyTo_249 : decode cX10_copyTo 249 = .ok (.iconst 0, 1) := by decide +kernel
theorem dX10_copyTo_250 : decode cX10_copyTo 250 = .ok (.istore 4, 2) := by decide +kernel
theorem dX10_copyTo_252 : decode cX10_copyTo 252 = .ok (.iload 4, 2) := by decide +kernel
theorem dX10_copyTo_254 : decode cX10_copyTo 254 = .ok (.sipush 240, 3) := by decide +kernel
theorem dX10_copyTo_257 : decode cX10_copyTo 257 = .ok (.if_icmp .ge 35, 3) := by decide +kernel
theorem dX10_copyTo_260 : decode cX10_copyTo 260 = .ok (.aload_n 0, 1) := by decide +kernel
theorem dX10_copyTo_261 : decode cX10_copyTo 261 = .ok (.getfield 37, 3) := by decide +kernel
theorem dX10_copyTo_264 : decode cX10_copyTo 264 = .ok (.sipush 240, 3) := by decide +kernel
theorem dX10_copyTo_267 : decode cX10_copyTo 267 = .ok (.iload_n 2, 1) := by decide +kernel
theorem dX10_copyTo_268 : decode cX10_copyTo 268 = .ok (.imul, 1) := by decide +kernel
theorem dX10_copyTo_269 : decode cX10_copyTo 269 = .ok (.iload 4, 2) := by decide +kernel
theorem dX10_copyTo_271 : decode cX10_copyTo 271 = .ok (.iadd, 1) := by decide +kernel
theorem dX10_copyTo_272 : decode cX10_copyTo 272 = .ok (.aload_n 0, 1) := by decide +kernel
theorem dX10_copyTo_273 : decode cX10_copyTo 273 = .ok (.getfield 37, 3) := by decide +kernel
theorem dX10_copyTo_276 : decode cX10_copyTo 276 = .ok (.sipush 240, 3) := by decide +kernel
theorem dX10_copyTo_279 : decode cX10_copyTo 279 = .ok (.iload_n 1, 1) := by decide +kernel
theorem dX10_copyTo_280 : decode cX10_copyTo 280 = .ok (.imul, 1) := by decide +kernel
theorem dX10_copyTo_281 : decode cX10_copyTo 281 = .ok (.iload 4, 2) := by decide +kernel
theorem dX10_copyTo_283 : decode cX10_copyTo 283 = .ok (.iadd, 1) := by decide +kernel
theorem dX10_copyTo_284 : decode cX10_copyTo 284 = .ok (.iaload, 1) := by decide +kernel
theorem dX10_copyTo_285 : decode cX10_copyTo 285 = .ok (.iastore, 1) := by decide +kernel
theorem dX10_copyTo_286 : decode cX10_copyTo 286 = .ok (.iinc 4 1, 3) := by decide +kernel
theorem dX10_copyTo_289 : decode cX10_copyTo 289 = .ok (.goto (-37), 3) := by decide +kernel
theorem dX10_copyTo_292 : decode cX10_copyTo 292 = .ok (.iload_n 3, 1) := by decide +kernel
theorem dX10_copyTo_293 : decode cX10_copyTo 293 = .ok (.ifCond .eq 27, 3) := by decide +kernel
theorem dX10_copyTo_296 : decode cX10_copyTo 296 = .ok (.aload_n 0, 1) := by decide +kernel
theorem dX10_copyTo_297 : decode cX10_copyTo 297 = .ok (.getfield 40, 3) := by decide +kernel
theorem dX10_copyTo_300 : decode cX10_copyTo 300 = .ok (.iload_n 2, 1) := by decide +kernel
theorem dX10_copyTo_301 : decode cX10_copyTo 301 = .ok (.aload_n 0, 1) := by decide +kernel
theorem dX10_copyTo_302 : decode cX10_copyTo 302 = .ok (.getfield 40, 3) := by decide +kernel
theorem dX10_copyTo_305 : decode cX10_copyTo 305 = .ok (.iload_n 1, 1) := by decide +kernel
theorem dX10_copyTo_306 : decode cX10_copyTo 306 = .ok (.iaload, 1) := by decide +kernel
theorem dX10_copyTo_307 : decode cX10_copyTo 307 = .ok (.iastore, 1) := by decide +kernel
theorem dX10_copyTo_308 : decode cX10_copyTo 308 = .ok (.aload_n 0, 1) := by decide +kernel
theorem dX10_copyTo_309 : decode cX10_copyTo 309 = .ok (.getfield 43, 3) := by decide +kernel
theorem dX10_copyTo_312 : decode cX10_copyTo 312 = .ok (.iload_n 2, 1) := by decide +kernel
theorem dX10_copyTo_313 : decode cX10_copyTo 313 = .ok (.aload_n 0, 1) := by decide +kernel
theorem dX10_copyTo_314 : decode cX10_copyTo 314 = .ok (.getfield 43, 3) := by decide +kernel
theorem dX10_copyTo_317 : decode cX10_copyTo 317 = .ok (.iload_n 1, 1) := by decide +kernel
theorem dX10_copyTo_318 : decode cX10_copyTo 318 = .ok (.iaload, 1) := by decide +kernel
theorem dX10_copyTo_319 : decode cX10_copyTo 319 = .ok (.iastore, 1) := by decide +kernel
theorem dX10_copyTo_320 : decode cX10_copyTo 320 = .ok (.return_, 1) := by decide +kernel
theorem dX10_draw_0 : decode cX10_draw 0 = .ok (.aload_n 0, 1) := by decide +kernel
theorem dX10_draw_1 : decode cX10_draw 1 = .ok (.aload_n 0, 1) := by decide +kernel
theorem dX10_draw_2 : decode cX10_draw 2 = .ok (.getfield 223, 3) := by decide +kernel
theorem dX10_draw_5 : decode cX10_draw 5 = .ok (.ldc 226, 2) := by decide +kernel
theorem dX10_draw_7 : decode cX10_draw 7 = .ok (.imul, 1) := by decide +kernel
theorem dX10_draw_8 : decode cX10_draw 8 = .ok (.sipush 12345, 3) := by decide +kernel
theorem dX10_draw_11 : decode cX10_draw 11 = .ok (.iadd, 1) := by decide +kernel
theorem dX10_draw_12 : decode cX10_draw 12 = .ok (.putfield 223, 3) := by decide +kernel
theorem dX10_draw_15 : decode cX10_draw 15 = .ok (.aload_n 0, 1) := by decide +kernel
theorem dX10_draw_16 : decode cX10_draw 16 = .ok (.getfield 223, 3) := by decide +kernel
theorem dX10_draw_19 : decode cX10_draw 19 = .ok (.bipush 16, 2) := by decide +kernel
theorem dX10_draw_21 : decode cX10_draw 21 = .ok (.iushr, 1) := by decide +kernel
theorem dX10_draw_22 : decode cX10_draw 22 = .ok (.iload_n 1, 1) := by decide +kernel
theorem dX10_draw_23 : decode cX10_draw 23 = .ok (.irem, 1) := by decide +kernel
theorem dX10_draw_24 : decode cX10_draw 24 = .ok (.ireturn, 1) := by decide +kernel
theorem dX10_seatBy_0 : decode cX10_seatBy 0 = .ok (.iload_n 0, 1) := by decide +kernel
theorem dX10_seatBy_1 : decode cX10_seatBy 1 = .ok (.iconst 2, 1) := by decide +kernel
theorem dX10_seatBy_2 : decode cX10_seatBy 2 = .ok (.if_icmp .ge 7, 3) := by decide +kernel
theorem dX10_seatBy_5 : decode cX10_seatBy 5 = .ok (.iload_n 0, 1) := by decide +kernel
theorem dX10_seatBy_6 : decode cX10_seatBy 6 = .ok (.goto 6, 3) := by decide +kernel
theorem dX10_seatBy_9 : decode cX10_seatBy 9 = .ok (.iload_n 0, 1) := by decide +kernel
theorem dX10_seatBy_10 : decode cX10_seatBy 10 = .ok (.iconst 2, 1) := by decide +kernel
theorem dX10_seatBy_11 : decode cX10_seatBy 11 = .ok (.iadd, 1) := by decide +kernel
theorem dX10_seatBy_12 : decode cX10_seatBy 12 = .ok (.ireturn, 1) := by decide +kernel
theorem dX10_byNumber_0 : decode cX10_byNumber 0 = .ok (.iconst 0, 1) := by decide +kernel
theorem dX10_byNumber_1 : decode cX10_byNumber 1 = .ok (.istore_n 3, 1) := by decide +kernel
theorem dX10_byNumber_2 : decode cX10_byNumber 2 = .ok (.iload_n 3, 1) := by decide +kernel
theorem dX10_byNumber_3 : decode cX10_byNumber 3 = .ok (.iconst 4, 1) := by decide +kernel
theorem dX10_byNumber_4 : decode cX10_byNumber 4 = .ok (.if_icmp .ge 29, 3) := by decide +kernel
theorem dX10_byNumber_7 : decode cX10_byNumber 7 = .ok (.aload_n 0, 1) := by decide +kernel
theorem dX10_byNumber_8 : decode cX10_byNumber 8 = .ok (.getfield 7, 3) := by decide +kernel
theorem dX10_byNumber_11 : decode cX10_byNumber 11 = .ok (.iconst 4, 1) := by decide +kernel
theorem dX10_byNumber_12 : decode cX10_byNumber 12 = .ok (.iload_n 1, 1) := by decide +kernel
theorem dX10_byNumber_13 : decode cX10_byNumber 13 = .ok (.imul, 1) := by decide +kernel
theorem dX10_byNumber_14 : decode cX10_byNumber 14 = .ok (.iload_n 3, 1) := by decide +kernel
theorem dX10_byNumber_15 : decode cX10_byNumber 15 = .ok (.iadd, 1) := by decide +kernel
theorem dX10_byNumber_16 : decode cX10_byNumber 16 = .ok (.iload_n 3, 1) := by decide +kernel
theorem dX10_byNumber_17 : decode cX10_byNumber 17 = .ok (.iconst 2, 1) := by decide +kernel
theorem dX10_byNumber_18 : decode cX10_byNumber 18 = .ok (.if_icmp .ge 7, 3) := by decide +kernel
theorem dX10_byNumber_21 : decode cX10_byNumber 21 = .ok (.iconst 2, 1) := by decide +kernel
theorem dX10_byNumber_22 : decode cX10_byNumber 22 = .ok (.goto 4, 3) := by decide +kernel
theorem dX10_byNumber_25 : decode cX10_byNumber 25 = .ok (.iconst (-1), 1) := by decide +kernel
theorem dX10_byNumber_26 : decode cX10_byNumber 26 = .ok (.iastore, 1) := by decide +kernel
theorem dX10_byNumber_27 : decode cX10_byNumber 27 = .ok (.iinc 3 1, 3) := by decide +kernel
theorem dX10_byNumber_30 : decode cX10_byNumber 30 = .ok (.goto (-28), 3) := by decide +kernel
theorem dX10_byNumber_33 : decode cX10_byNumber 33 = .ok (.iconst 0, 1) := by decide +kernel
theorem dX10_byNumber_34 : decode cX10_byNumber 34 = .ok (.istore_n 3, 1) := by decide +kernel
theorem dX10_byNumber_35 : decode cX10_byNumber 35 = .ok (.iload_n 3, 1) := by decide +kernel
theorem dX10_byNumber_36 : decode cX10_byNumber 36 = .ok (.bipush 16, 2) := by decide +kernel
theorem dX10_byNumber_38 : decode cX10_byNumber 38 = .ok (.if_icmp .ge 21, 3) := by decide +kernel
theorem dX10_byNumber_41 : decode cX10_byNumber 41 = .ok (.aload_n 0, 1) := by decide +kernel
theorem dX10_byNumber_42 : decode cX10_byNumber 42 = .ok (.getfield 13, 3) := by decide +kernel
theorem dX10_byNumber_45 : decode cX10_byNumber 45 = .ok (.bipush 16, 2) := by decide +kernel
theorem dX10_byNumber_47 : decode cX10_byNumber 47 = .ok (.iload_n 1, 1) := by decide +kernel
theorem dX10_byNumber_48 : decode cX10_byNumber 48 = .ok (.imul, 1) := by decide +kernel
theorem dX10_byNumber_49 : decode cX10_byNumber 49 = .ok (.iload_n 3, 1) := by decide +kernel
theorem dX10_byNumber_50 : decode cX10_byNumber 50 = .ok (.iadd, 1) := by decide +kernel
theorem dX10_byNumber_51 : decode cX10_byNumber 51 = .ok (.iconst (-1), 1) := by decide +kernel
theorem dX10_byNumber_52 : decode cX10_byNumber 52 = .ok (.iastore, 1) := by decide +kernel
theorem dX10_byNumber_53 : decode cX10_byNumber 53 = .ok (.iinc 3 1, 3) := by decide +kernel
theorem dX10_byNumber_56 : decode cX10_byNumber 56 = .ok (.goto (-21), 3) := by decide +kernel
theorem dX10_byNumber_59 : decode cX10_byNumber 59 = .ok (.aload_n 0, 1) := by decide +kernel
theorem dX10_byNumber_60 : decode cX10_byNumber 60 = .ok (.getfield 25, 3) := by decide +kernel
theorem dX10_byNumber_63 : decode cX10_byNumber 63 = .ok (.iload_n 1, 1) := by decide +kernel
theorem dX10_byNumber_64 : decode cX10_byNumber 64 = .ok (.iconst 0, 1) := by decide +kernel
theorem dX10_byNumber_65 : decode cX10_byNumber 65 = .ok (.iastore, 1) := by decide +kernel
theorem dX10_byNumber_66 : decode cX10_byNumber 66 = .ok (.aload_n 0, 1) := by decide +kernel
theorem dX10_byNumber_67 : decode cX10_byNumber 67 = .ok (.iload_n 2, 1) := by decide +kernel
theorem dX10_byNumber_68 : decode cX10_byNumber 68 = .ok (.putfield 223, 3) := by decide +kernel
theorem dX10_byNumber_71 : decode cX10_byNumber 71 = .ok (.iconst 0, 1) := by decide +kernel
theorem dX10_byNumber_72 : decode cX10_byNumber 72 = .ok (.istore_n 3, 1) := by decide +kernel
theorem dX10_byNumber_73 : decode cX10_byNumber 73 = .ok (.iload_n 3, 1) := by decide +kernel
theorem dX10_byNumber_74 : decode cX10_byNumber 74 = .ok (.iconst 4, 1) := by decide +kernel
theorem dX10_byNumber_75 : decode cX10_byNumber 75 = .ok (.if_icmp .ge 44, 3) := by decide +kernel
theorem dX10_byNumber_78 : decode cX10_byNumber 78 = .ok (.aload_n 0, 1) := by decide +kernel
theorem dX10_byNumber_79 : decode cX10_byNumber 79 = .ok (.iconst 5, 1) := by decide +kernel
theorem dX10_byNumber_80 : decode cX10_byNumber 80 = .ok (.invokevirtual 227, 3) := by decide +kernel
theorem dX10_byNumber_83 : decode cX10_byNumber 83 = .ok (.istore 4, 2) := by decide +kernel
theorem dX10_byNumber_85 : decode cX10_byNumber 85 = .ok (.iconst 2, 1) := by decide +kernel
theorem dX10_byNumber_86 : decode cX10_byNumber 86 = .ok (.aload_n 0, 1) := by decide +kernel
theorem dX10_byNumber_87 : decode cX10_byNumber 87 = .ok (.iconst 3, 1) := by decide +kernel
theorem dX10_byNumber_88 : decode cX10_byNumber 88 = .ok (.invokevirtual 227, 3) := by decide +kernel
theorem dX10_byNumber_91 : decode cX10_byNumber 91 = .ok (.iadd, 1) := by decide +kernel
theorem dX10_byNumber_92 : decode cX10_byNumber 92 = .ok (.istore 5, 2) := by decide +kernel
theorem dX10_byNumber_94 : decode cX10_byNumber 94 = .ok (.aload_n 0, 1) := by decide +kernel
theorem dX10_byNumber_95 : decode cX10_byNumber 95 = .ok (.iload_n 1, 1) := by decide +kernel
theorem dX10_byNumber_96 : decode cX10_byNumber 96 = .ok (.iload_n 3, 1) := by decide +kernel
theorem dX10_byNumber_97 : decode cX10_byNumber 97 = .ok (.invokestatic 230, 3) := by decide +kernel
theorem dX10_byNumber_100 : decode cX10_byNumber 100 = .ok (.iload 4, 2) := by decide +kernel
theorem dX10_byNumber_102 : decode cX10_byNumber 102 = .ok (.iload 5, 2) := by decide +kernel
theorem dX10_byNumber_104 : decode cX10_byNumber 104 = .ok (.aload_n 0, 1) := by decide +kernel
theorem dX10_byNumber_105 : decode cX10_byNumber 105 = .ok (.bipush 6, 2) := by decide +kernel
theorem dX10_byNumber_107 : decode cX10_byNumber 107 = .ok (.invokevirtual 227, 3) := by decide +kernel
theorem dX10_byNumber_110 : decode cX10_byNumber 110 = .ok (.invokevirtual 197, 3) := by decide +kernel
theorem dX10_byNumber_113 : decode cX10_byNumber 113 = .ok (.iinc 3 1, 3) := by decide +kernel
theorem dX10_byNumber_116 : decode cX10_byNumber 116 = .ok (.goto (-43), 3) := by decide +kernel
theorem dX10_byNumber_119 : decode cX10_byNumber 119 = .ok (.iconst 0, 1) := by decide +kernel
theorem dX10_byNumber_120 : decode cX10_byNumber 120 = .ok (.istore_n 3, 1) := by decide +kernel
theorem dX10_byNumber_121 : decode cX10_byNumber 121 = .ok (.iload_n 3, 1) := by decide +kernel
theorem dX10_byNumber_122 : decode cX10_byNumber 122 = .ok (.bipush 6, 2) := by decide +kernel
theorem dX10_byNumber_124 : decode cX10_byNumber 124 = .ok (.if_icmp .ge 152, 3) := by decide +kernel
theorem dX10_byNumber_127 : decode cX10_byNumber 127 = .ok (.iload_n 3, 1) := by decide +kernel
theorem dX10_byNumber_128 : decode cX10_byNumber 128 = .ok (.ifCond .ne 7, 3) := by decide +kernel
theorem dX10_byNumber_131 : decode cX10_byNumber 131 = .ok (.iconst (-1), 1) := by decide +kernel
theorem dX10_byNumber_132 : decode cX10_byNumber 132 = .ok (.goto 11, 3) := by decide +kernel
theorem dX10_byNumber_135 : decode cX10_byNumber 135 = .ok (.aload_n 0, 1) := by decide +kernel
theorem dX10_byNumber_136 : decode cX10_byNumber 136 = .ok (.iconst 4, 1) := by decide +kernel
theorem dX10_byNumber_137 : decode cX10_byNumber 137 = .ok (.invokevirtual 227, 3) := by decide +kernel
theorem dX10_byNumber_140 : decode cX10_byNumber 140 = .ok (.invokestatic 230, 3) := by decide +kernel
theorem dX10_byNumber_143 : decode cX10_byNumber 143 = .ok (.istore 4, 2) := by decide +kernel
theorem dX10_byNumber_145 : decode cX10_byNumber 145 = .ok (.aload_n 0, 1) := by decide +kernel
theorem dX10_byNumber_146 : decode cX10_byNumber 146 = .ok (.iconst 4, 1) := by decide +kernel
theorem dX10_byNumber_147 : decode cX10_byNumber 147 = .ok (.invokevirtual 227, 3) := by decide +kernel
theorem dX10_byNumber_150 : decode cX10_byNumber 150 = .ok (.invokestatic 230, 3) := by decide +kernel
theorem dX10_byNumber_153 : decode cX10_byNumber 153 = .ok (.istore 5, 2) := by decide +kernel
theorem dX10_byNumber_155 : decode cX10_byNumber 155 = .ok (.aload_n 0, 1) := by decide +kernel
theorem dX10_byNumber_156 : decode cX10_byNumber 156 = .ok (.getfield 13, 3) := by decide +kernel
theorem dX10_byNumber_159 : decode cX10_byNumber 159 = .ok (.bipush 16, 2) := by decide +kernel
theorem dX10_byNumber_161 : decode cX10_byNumber 161 = .ok (.iload_n 1, 1) := by decide +kernel
theorem dX10_byNumber_162 : decode cX10_byNumber 162 = .ok (.imul, 1) := by decide +kernel
theorem dX10_byNumber_163 : decode cX10_byNumber 163 = .ok (.iload 5, 2) := by decide +kernel
theorem dX10_byNumber_165 : decode cX10_byNumber 165 = .ok (.iadd, 1) := by decide +kernel
theorem dX10_byNumber_166 : decode cX10_byNumber 166 = .ok (.iaload, 1) := by decide +kernel
theorem dX10_byNumber_167 : decode cX10_byNumber 167 = .ok (.iconst 4, 1) := by decide +kernel
theorem dX10_byNumber_168 : decode cX10_byNumber 168 = .ok (.if_icmp .ne 7, 3) := by decide +kernel
theorem dX10_byNumber_171 : decode cX10_byNumber 171 = .ok (.iconst 2, 1) := by decide +kernel
theorem dX10_byNumber_172 : decode cX10_byNumber 172 = .ok (.goto 15, 3) := by decide +kernel
theorem dX10_byNumber_175 : decode cX10_byNumber 175 = .ok (.aload_n 0, 1) := by decide +kernel
theorem dX10_byNumber_176 : decode cX10_byNumber 176 = .ok (.getfield 16, 3) := by decide +kernel
theorem dX10_byNumber_179 : decode cX10_byNumber 179 = .ok (.bipush 16, 2) := by decide +kernel
theorem dX10_byNumber_181 : decode cX10_byNumber 181 = .ok (.iload_n 1, 1) := by decide +kernel
theorem dX10_byNumber_182 : decode cX10_byNumber 182 = .ok (.imul, 1) := by decide +kernel
theorem dX10_byNumber_183 : decode cX10_byNumber 183 = .ok (.iload 5, 2) := by decide +kernel
theorem dX10_byNumber_185 : decode cX10_byNumber 185 = .ok (.iadd, 1) := by decide +kernel
theorem dX10_byNumber_186 : decode cX10_byNumber 186 = .ok (.iaload, 1) := by decide +kernel
theorem dX10_byNumber_187 : decode cX10_byNumber 187 = .ok (.istore 6, 2) := by decide +kernel
theorem dX10_byNumber_189 : decode cX10_byNumber 189 = .ok (.bipush 40, 2) := by decide +kernel
theorem dX10_byNumber_191 : decode cX10_byNumber 191 = .ok (.iload_n 1, 1) := by decide +kernel
theorem dX10_byNumber_192 : decode cX10_byNumber 192 = .ok (.imul, 1) := by decide +kernel
theorem dX10_byNumber_193 : decode cX10_byNumber 193 = .ok (.aload_n 0, 1) := by decide +kernel
theorem dX10_byNumber_194 : decode cX10_byNumber 194 = .ok (.iload_n 1, 1) := by decide +kernel
theorem dX10_byNumber_195 : decode cX10_byNumber 195 = .ok (.iload 4, 2) := by decide +kernel
theorem dX10_byNumber_197 : decode cX10_byNumber 197 = .ok (.iload 5, 2) := by decide +kernel
theorem dX10_byNumber_199 : decode cX10_byNumber 199 = .ok (.iload 6, 2) := by decide +kernel
theorem dX10_byNumber_201 : decode cX10_byNumber 201 = .ok (.invokevirtual 209, 3) := by decide +kernel
theorem dX10_byNumber_204 : decode cX10_byNumber 204 = .ok (.iadd, 1) := by decide +kernel
theorem dX10_byNumber_205 : decode cX10_byNumber 205 = .ok (.istore 7, 2) := by decide +kernel
theorem dX10_byNumber_207 : decode cX10_byNumber 207 = .ok (.iconst 0, 1) := by decide +kernel
theorem dX10_byNumber_208 : decode cX10_byNumber 208 = .ok (.istore 8, 2) := by decide +kernel
theorem dX10_byNumber_210 : decode cX10_byNumber 210 = .ok (.iload 8, 2) := by decide +kernel
theorem dX10_byNumber_212 : decode cX10_byNumber 212 = .ok (.iload 6, 2) := by decide +kernel
theorem dX10_byNumber_214 : decode cX10_byNumber 214 = .ok (.if_icmp .ge 56, 3) := by decide +kernel
theorem dX10_byNumber_217 : decode cX10_byNumber 217 = .ok (.aload_n 0, 1) := by decide +kernel
theorem dX10_byNumber_218 : decode cX10_byNumber 218 = .ok (.getfield 37, 3) := by decide +kernel
theorem dX10_byNumber_221 : decode cX10_byNumber 221 = .ok (.bipush 6, 2) := by decide +kernel
theorem dX10_byNumber_223 : decode cX10_byNumber 223 = .ok (.iload 7, 2) := by decide +kernel
theorem dX10_byNumber_225 : decode cX10_byNumber 225 = .ok (.imul, 1) := by decide +kernel
theorem dX10_byNumber_226 : decode cX10_byNumber 226 = .ok (.iload 8, 2) := by decide +kernel
theorem dX10_byNumber_228 : decode cX10_byNumber 228 = .ok (.iadd, 1) := by decide +kernel
theorem dX10_byNumber_229 : decode cX10_byNumber 229 = .ok (.iload_n 3, 1) := by decide +kernel
theorem dX10_byNumber_230 : decode cX10_byNumber 230 = .ok (.ifCond .ne 20, 3) := by decide +kernel
theorem dX10_byNumber_233 : decode cX10_byNumber 233 = .ok (.iload 8, 2) := by decide +kernel
theorem dX10_byNumber_235 : decode cX10_byNumber 235 = .ok (.iload 6, 2) := by decide +kernel
theorem dX10_byNumber_237 : decode cX10_byNumber 237 = .ok (.iconst 1, 1) := by decide +kernel
theorem dX10_byNumber_238 : decode cX10_byNumber 238 = .ok (.isub, 1) := by decide +kernel
theorem dX10_byNumber_239 : decode cX10_byNumber 239 = .ok (.if_icmp .ne 7, 3) := by decide +kernel
theorem dX10_byNumber_242 : decode cX10_byNumber 242 = .ok (.iconst 1, 1) := by decide +kernel
theorem dX10_byNumber_243 : decode cX10_byNumber 243 = .ok (.goto 20, 3) := by decide +kernel
theorem dX10_byNumber_246 : decode cX10_byNumber 246 = .ok (.iconst 0, 1) := by decide +kernel
theorem dX10_byNumber_247 : decode cX10_byNumber 247 = .ok (.goto 16, 3) := by decide +kernel
theorem dX10_byNumber_250 : decode cX10_byNumber 250 = .ok (.aload_n 0, 1) := by decide +kernel
theorem dX10_byNumber_251 : decode cX10_byNumber 251 = .ok (.iconst 3, 1) := by decide +kernel
theorem dX10_byNumber_252 : decode cX10_byNumber 252 = .ok (.invokevirtual 227, 3) := by decide +kernel
theorem dX10_byNumber_255 : decode cX10_byNumber 255 = .ok (.ifCond .eq 7, 3) := by decide +kernel
theorem dX10_byNumber_258 : decode cX10_byNumber 258 = .ok (.iconst 1, 1) := by decide +kernel
theorem dX10_byNumber_259 : decode cX10_byNumber 259 = .ok (.goto 4, 3) := by decide +kernel
theorem dX10_byNumber_262 : decode cX10_byNumber 262 = .ok (.iconst 0, 1) := by decide +kernel
theorem dX10_byNumber_263 : decode cX10_byNumber 263 = .ok (.iastore, 1) := by decide +kernel
theorem dX10_byNumber_264 : decode cX10_byNumber 264 = .ok (.iinc 8 1, 3) := by decide +kernel
theorem dX10_byNumber_267 : decode cX10_byNumber 267 = .ok (.goto (-57), 3) := by decide +kernel
theorem dX10_byNumber_270 : decode cX10_byNumber 270 = .ok (.iinc 3 1, 3) := by decide +kernel
theorem dX10_byNumber_273 : decode cX10_byNumber 273 = .ok (.goto (-152), 3) := by decide +kernel
theorem dX10_byNumber_276 : decode cX10_byNumber 276 = .ok (.return_, 1) := by decide +kernel
theorem dX10_putAside_0 : decode cX10_putAside 0 = .ok (.iconst 0, 1) := by decide +kernel
theorem dX10_putAside_1 : decode cX10_putAside 1 = .ok (.istore_n 2, 1) := by decide +kernel
theorem dX10_putAside_2 : decode cX10_putAside 2 = .ok (.iload_n 2, 1) := by decide +kernel
theorem dX10_putAside_3 : decode cX10_putAside 3 = .ok (.iconst 4, 1) := by decide +kernel
theorem dX10_putAside_4 : decode cX10_putAside 4 = .ok (.if_icmp .ge 25, 3) := by decide +kernel
theorem dX10_putAside_7 : decode cX10_putAside 7 = .ok (.aload_n 0, 1) := by decide +kernel
theorem dX10_putAside_8 : decode cX10_putAside 8 = .ok (.getfield 58, 3) := by decide +kernel
theorem dX10_putAside_11 : decode cX10_putAside 11 = .ok (.iload_n 2, 1) := by decide +kernel
theorem dX10_putAside_12 : decode cX10_putAside 12 = .ok (.aload_n 0, 1) := by decide +kernel
theorem dX10_putAside_13 : decode cX10_putAside 13 = .ok (.getfield 7, 3) := by decide +kernel
theorem dX10_putAside_16 : decode cX10_putAside 16 = .ok (.iconst 4, 1) := by decide +kernel
theorem dX10_putAside_17 : decode cX10_putAside 17 = .ok (.iload_n 1, 1) := by decide +kernel
theorem dX10_putAside_18 : decode cX10_putAside 18 = .ok (.imul, 1) := by decide +kernel
theorem dX10_putAside_19 : decode cX10_putAside 19 = .ok (.iload_n 2, 1) := by decide +kernel
theorem dX10_putAside_20 : decode cX10_putAside 20 = .ok (.iadd, 1) := by decide +kernel
theorem dX10_putAside_21 : decode cX10_putAside 21 = .ok (.iaload, 1) := by decide +kernel
theorem dX10_putAside_22 : decode cX10_putAside 22 = .ok (.iastore, 1) := by decide +kernel
theorem dX10_putAside_23 : decode cX10_putAside 23 = .ok (.iinc 2 1, 3) := by decide +kernel
theorem dX10_putAside_26 : decode cX10_putAside 26 = .ok (.goto (-24), 3) := by decide +kernel
theorem dX10_putAside_29 : decode cX10_putAside 29 = .ok (.iconst 0, 1) := by decide +kernel
theorem dX10_putAside_30 : decode cX10_putAside 30 = .ok (.istore_n 2, 1) := by decide +kernel
theorem dX10_putAside_31 : decode cX10_putAside 31 = .ok (.iload_n 2, 1) := by decide +kernel
theorem dX10_putAside_32 : decode cX10_putAside 32 = .ok (.bipush 16, 2) := by decide +kernel
theorem dX10_putAside_34 : decode cX10_putAside 34 = .ok (.if_icmp .ge 88, 3) := by decide +kernel
theorem dX10_putAside_37 : decode cX10_putAside 37 = .ok (.aload_n 0, 1) := by decide +kernel
theorem dX10_putAside_38 : decode cX10_putAside 38 = .ok (.getfield 58, 3) := by decide +kernel
theorem dX10_putAside_41 : decode cX10_putAside 41 = .ok (.iconst 4, 1) := by decide +kernel
theorem dX10_putAside_42 : decode cX10_putAside 42 = .ok (.iload_n 2, 1) := by decide +kernel
theorem dX10_putAside_43 : decode cX10_putAside 43 = .ok (.iadd, 1) := by decide +kernel
theorem dX10_putAside_44 : decode cX10_putAside 44 = .ok (.aload_n 0, 1) := by decide +kernel
theorem dX10_putAside_45 : decode cX10_putAside 45 = .ok (.getfield 13, 3) := by decide +kernel
theorem dX10_putAside_48 : decode cX10_putAside 48 = .ok (.bipush 16, 2) := by decide +kernel
theorem dX10_putAside_50 : decode cX10_putAside 50 = .ok (.iload_n 1, 1) := by decide +kernel
theorem dX10_putAside_51 : decode cX10_putAside 51 = .ok (.imul, 1) := by decide +kernel
theorem dX10_putAside_52 : decode cX10_putAside 52 = .ok (.iload_n 2, 1) := by decide +kernel
theorem dX10_putAside_53 : decode cX10_putAside 53 = .ok (.iadd, 1) := by decide +kernel
theorem dX10_putAside_54 : decode cX10_putAside 54 = .ok (.iaload, 1) := by decide +kernel
theorem dX10_putAside_55 : decode cX10_putAside 55 = .ok (.iastore, 1) := by decide +kernel
theorem dX10_putAside_56 : decode cX10_putAside 56 = .ok (.aload_n 0, 1) := by decide +kernel
theorem dX10_putAside_57 : decode cX10_putAside 57 = .ok (.getfield 58, 3) := by decide +kernel
theorem dX10_putAside_60 : decode cX10_putAside 60 = .ok (.bipush 20, 2) := by decide +kernel
theorem dX10_putAside_62 : decode cX10_putAside 62 = .ok (.iload_n 2, 1) := by decide +kernel
theorem dX10_putAside_63 : decode cX10_putAside 63 = .ok (.iadd, 1) := by decide +kernel
theorem dX10_putAside_64 : decode cX10_putAside 64 = .ok (.aload_n 0, 1) := by decide +kernel
theorem dX10_putAside_65 : decode cX10_putAside 65 = .ok (.getfield 16, 3) := by decide +kernel
theorem dX10_putAside_68 : decode cX10_putAside 68 = .ok (.bipush 16, 2) := by decide +kernel
theorem dX10_putAside_70 : decode cX10_putAside 70 = .ok (.iload_n 1, 1) := by decide +kernel
theorem dX10_putAside_71 : decode cX10_putAside 71 = .ok (.imul, 1) := by decide +kernel
theorem dX10_putAside_72 : decode cX10_putAside 72 = .ok (.iload_n 2, 1) := by decide +kernel
theorem dX10_putAside_73 : decode cX10_putAside 73 = .ok (.iadd, 1) := by decide +kernel
theorem dX10_putAside_74 : decode cX10_putAside 74 = .ok (.iaload, 1) := by decide +kernel
theorem dX10_putAside_75 : decode cX10_putAside 75 = .ok (.iastore, 1) := by decide +kernel
theorem dX10_putAside_76 : decode cX10_putAside 76 = .ok (.aload_n 0, 1) := by decide +kernel
theorem dX10_putAside_77 : decode cX10_putAside 77 = .ok (.getfield 58, 3) := by decide +kernel
theorem dX10_putAside_80 : decode cX10_putAside 80 = .ok (.bipush 36, 2) := by decide +kernel
theorem dX10_putAside_82 : decode cX10_putAside 82 = .ok (.iload_n 2, 1) := by decide +kernel
theorem dX10_putAside_83 : decode cX10_putAside 83 = .ok (.iadd, 1) := by decide +kernel
theorem dX10_putAside_84 : decode cX10_putAside 84 = .ok (.aload_n 0, 1) := by decide +kernel
theorem dX10_putAside_85 : decode cX10_putAside 85 = .ok (.getfield 19, 3) := by decide +kernel
theorem dX10_putAside_88 : decode cX10_putAside 88 = .ok (.bipush 16, 2) := by decide +kernel
theorem dX10_putAside_90 : decode cX10_putAside 90 = .ok (.iload_n 1, 1) := by decide +kernel
theorem dX10_putAside_91 : decode cX10_putAside 91 = .ok (.imul, 1) := by decide +kernel
theorem dX10_putAside_92 : decode cX10_putAside 92 = .ok (.iload_n 2, 1) := by decide +kernel
theorem dX10_putAside_93 : decode cX10_putAside 93 = .ok (.iadd, 1) := by decide +kernel
theorem dX10_putAside_94 : decode cX10_putAside 94 = .ok (.iaload, 1) := by decide +kernel
theorem dX10_putAside_95 : decode cX10_putAside 95 = .ok (.iastore, 1) := by decide +kernel
theorem dX10_putAside_96 : decode cX10_putAside 96 = .ok (.aload_n 0, 1) := by decide +kernel
theorem dX10_putAside_97 : decode cX10_putAside 97 = .ok (.getfield 58, 3) := by decide +kernel
theorem dX10_putAside_100 : decode cX10_putAside 100 = .ok (.bipush 52, 2) := by decide +kernel
theorem dX10_putAside_102 : decode cX10_putAside 102 = .ok (.iload_n 2, 1) := by decide +kernel
theorem dX10_putAside_103 : decode cX10_putAside 103 = .ok (.iadd, 1) := by decide +kernel
theorem dX10_putAside_104 : decode cX10_putAside 104 = .ok (.aload_n 0, 1) := by decide +kernel
theorem dX10_putAside_105 : decode cX10_putAside 105 = .ok (.getfield 22, 3) := by decide +kernel
theorem dX10_putAside_108 : decode cX10_putAside 108 = .ok (.bipush 16, 2) := by decide +kernel
theorem dX10_putAside_110 : decode cX10_putAside 110 = .ok (.iload_n 1, 1) := by decide +kernel
theorem dX10_putAside_111 : decode cX10_putAside 111 = .ok (.imul, 1) := by decide +kernel
theorem dX10_putAside_112 : decode cX10_putAside 112 = .ok (.iload_n 2, 1) := by decide +kernel
theorem dX10_putAside_113 : decode cX10_putAside 113 = .ok (.iadd, 1) := by decide +kernel
theorem dX10_putAside_114 : decode cX10_putAside 114 = .ok (.iaload, 1) := by decide +kernel
theorem dX10_putAside_115 : decode cX10_putAside 115 = .ok (.iastore, 1) := by decide +kernel
theorem dX10_putAside_116 : decode cX10_putAside 116 = .ok (.iinc 2 1, 3) := by decide +kernel
theorem dX10_putAside_119 : decode cX10_putAside 119 = .ok (.goto (-88), 3) := by decide +kernel
theorem dX10_putAside_122 : decode cX10_putAside 122 = .ok (.aload_n 0, 1) := by decide +kernel
theorem dX10_putAside_123 : decode cX10_putAside 123 = .ok (.getfield 58, 3) := by decide +kernel
theorem dX10_putAside_126 : decode cX10_putAside 126 = .ok (.bipush 68, 2) := by decide +kernel
theorem dX10_putAside_128 : decode cX10_putAside 128 = .ok (.aload_n 0, 1) := by decide +kernel
theorem dX10_putAside_129 : decode cX10_putAside 129 = .ok (.getfield 25, 3) := by decide +kernel
theorem dX10_putAside_132 : decode cX10_putAside 132 = .ok (.iload_n 1, 1) := by decide +kernel
theorem dX10_putAside_133 : decode cX10_putAside 133 = .ok (.iaload, 1) := by decide +kernel
theorem dX10_putAside_134 : decode cX10_putAside 134 = .ok (.iastore, 1) := by decide +kernel
theorem dX10_putAside_135 : decode cX10_putAside 135 = .ok (.iconst 0, 1) := by decide +kernel
theorem dX10_putAside_136 : decode cX10_putAside 136 = .ok (.istore_n 2, 1) := by decide +kernel
theorem dX10_putAside_137 : decode cX10_putAside 137 = .ok (.iload_n 2, 1) := by decide +kernel
theorem dX10_putAside_138 : decode cX10_putAside 138 = .ok (.bipush 40, 2) := by decide +kernel
theorem dX10_putAside_140 : decode cX10_putAside 140 = .ok (.if_icmp .ge 70, 3) := by decide +kernel
theorem dX10_putAside_143 : decode cX10_putAside 143 = .ok (.aload_n 0, 1) := by decide +kernel
theorem dX10_putAside_144 : decode cX10_putAside 144 = .ok (.getfield 58, 3) := by decide +kernel
theorem dX10_putAside_147 : decode cX10_putAside 147 = .ok (.bipush 70, 2) := by decide +kernel
theorem dX10_putAside_149 : decode cX10_putAside 149 = .ok (.iload_n 2, 1) := by decide +kernel
theorem dX10_putAside_150 : decode cX10_putAside 150 = .ok (.iadd, 1) := by decide +kernel
theorem dX10_putAside_151 : decode cX10_putAside 151 = .ok (.aload_n 0, 1) := by decide +kernel
theorem dX10_putAside_152 : decode cX10_putAside 152 = .ok (.getfield 28, 3) := by decide +kernel
theorem dX10_putAside_155 : decode cX10_putAside 155 = .ok (.bipush 40, 2) := by decide +kernel
theorem dX10_putAside_157 : decode cX10_putAside 157 = .ok (.iload_n 1, 1) := by decide +kernel
theorem dX10_putAside_158 : decode cX10_putAside 158 = .ok (.imul, 1) := by decide +kernel
theorem dX10_putAside_159 : decode cX10_putAside 159 = .ok (.iload_n 2, 1) := by decide +kernel
theorem dX10_putAside_160 : decode cX10_putAside 160 = .ok (.iadd, 1) := by decide +kernel
theorem dX10_putAside_161 : decode cX10_putAside 161 = .ok (.iaload, 1) := by decide +kernel
theorem dX10_putAside_162 : decode cX10_putAside 162 = .ok (.iastore, 1) := by decide +kernel
theorem dX10_putAside_163 : decode cX10_putAside 163 = .ok (.aload_n 0, 1) := by decide +kernel
theorem dX10_putAside_164 : decode cX10_putAside 164 = .ok (.getfield 58, 3) := by decide +kernel
theorem dX10_putAside_167 : decode cX10_putAside 167 = .ok (.bipush 110, 2) := by decide +kernel
theorem dX10_putAside_169 : decode cX10_putAside 169 = .ok (.iload_n 2, 1) := by decide +kernel
theorem dX10_putAside_170 : decode cX10_putAside 170 = .ok (.iadd, 1) := by decide +kernel
theorem dX10_putAside_171 : decode cX10_putAside 171 = .ok (.aload_n 0, 1) := by decide +kernel
theorem dX10_putAside_172 : decode cX10_putAside 172 = .ok (.getfield 31, 3) := by decide +kernel
theorem dX10_putAside_175 : decode cX10_putAside 175 = .ok (.bipush 40, 2) := by decide +kernel
theorem dX10_putAside_177 : decode cX10_putAside 177 = .ok (.iload_n 1, 1) := by decide +kernel
theorem dX10_putAside_178 : decode cX10_putAside 178 = .ok (.imul, 1) := by decide +kernel
theorem dX10_putAside_179 : decode cX10_putAside 179 = .ok (.iload_n 2, 1) := by decide +kernel
theorem dX10_putAside_180 : decode cX10_putAside 180 = .ok (.iadd, 1) := by decide +kernel
theorem dX10_putAside_181 : decode cX10_putAside 181 = .ok (.iaload, 1) := by decide +kernel
theorem dX10_putAside_182 : decode cX10_putAside 182 = .ok (.iastore, 1) := by decide +kernel
theorem dX10_putAside_183 : decode cX10_putAside 183 = .ok (.aload_n 0, 1) := by decide +kernel
theorem dX10_putAside_184 : decode cX10_putAside 184 = .ok (.getfield 58, 3) := by decide +kernel
theorem dX10_putAside_187 : decode cX10_putAside 187 = .ok (.sipush 150, 3) := by decide +kernel
theorem dX10_putAside_190 : decode cX10_putAside 190 = .ok (.iload_n 2, 1) := by decide +kernel
theorem dX10_putAside_191 : decode cX10_putAside 191 = .ok (.iadd, 1) := by decide +kernel
theorem dX10_putAside_192 : decode cX10_putAside 192 = .ok (.aload_n 0, 1) := by decide +kernel
theorem dX10_putAside_193 : decode cX10_putAside 193 = .ok (.getfield 34, 3) := by decide +kernel
theorem dX10_putAside_196 : decode cX10_putAside 196 = .ok (.bipush 40, 2) := by decide +kernel
theorem dX10_putAside_198 : decode cX10_putAside 198 = .ok (.iload_n 1, 1) := by decide +kernel
theorem dX10_putAside_199 : decode cX10_putAside 199 = .ok (.imul, 1) := by decide +kernel
theorem dX10_putAside_200 : decode cX10_putAside 200 = .ok (.iload_n 2, 1) := by decide +kernel
theorem dX10_putAside_201 : decode cX10_putAside 201 = .ok (.iadd, 1) := by decide +kernel
theorem dX10_putAside_202 : decode cX10_putAside 202 = .ok (.iaload, 1) := by decide +kernel
theorem dX10_putAside_203 : decode cX10_putAside 203 = .ok (.iastore, 1) := by decide +kernel
theorem dX10_putAside_204 : decode cX10_putAside 204 = .ok (.iinc 2 1, 3) := by decide +kernel
theorem dX10_putAside_207 : decode cX10_putAside 207 = .ok (.goto (-70), 3) := by decide +kernel
theorem dX10_putAside_210 : decode cX10_putAside 210 = .ok (.iconst 0, 1) := by decide +kernel
theorem dX10_putAside_211 : decode cX10_putAside 211 = .ok (.istore_n 2, 1) := by decide +kernel
theorem dX10_putAside_212 : decode cX10_putAside 212 = .ok (.iload_n 2, 1) := by decide +kernel
theorem dX10_putAside_213 : decode cX10_putAside 213 = .ok (.sipush 240, 3) := by decide +kernel
theorem dX10_putAside_216 : decode cX10_putAside 216 = .ok (.if_icmp .ge 31, 3) := by decide +kernel
theorem dX10_putAside_219 : decode cX10_putAside 219 = .ok (.aload_n 0, 1) := by decide +kernel
theorem dX10_putAside_220 : decode cX10_putAside 220 = .ok (.getfield 58, 3) := by decide +kernel
theorem dX10_putAside_223 : decode cX10_putAside 223 = .ok (.sipush 200, 3) := by decide +kernel
theorem dX10_putAside_226 : decode cX10_putAside 226 = .ok (.iload_n 2, 1) := by decide +kernel
theorem dX10_putAside_227 : decode cX10_putAside 227 = .ok (.iadd, 1) := by decide +kernel
theorem dX10_putAside_228 : decode cX10_putAside 228 = .ok (.aload_n 0, 1) := by decide +kernel
theorem dX10_putAside_229 : decode cX10_putAside 229 = .ok (.getfield 37, 3) := by decide +kernel
theorem dX10_putAside_232 : decode cX10_putAside 232 = .ok (.sipush 240, 3) := by decide +kernel
theorem dX10_putAside_235 : decode cX10_putAside 235 = .ok (.iload_n 1, 1) := by decide +kernel
theorem dX10_putAside_236 : decode cX10_putAside 236 = .ok (.imul, 1) := by decide +kernel
theorem dX10_putAside_237 : decode cX10_putAside 237 = .ok (.iload_n 2, 1) := by decide +kernel
theorem dX10_putAside_238 : decode cX10_putAside 238 = .ok (.iadd, 1) := by decide +kernel
theorem dX10_putAside_239 : decode cX10_putAside 239 = .ok (.iaload, 1) := by decide +kernel
theorem dX10_putAside_240 : decode cX10_putAside 240 = .ok (.iastore, 1) := by decide +kernel
theorem dX10_putAside_241 : decode cX10_putAside 241 = .ok (.iinc 2 1, 3) := by decide +kernel
theorem dX10_putAside_244 : decode cX10_putAside 244 = .ok (.goto (-32), 3) := by decide +kernel
theorem dX10_putAside_247 : decode cX10_putAside 247 = .ok (.return_, 1) := by decide +kernel
theorem dX10_takeBack_0 : decode cX10_takeBack 0 = .ok (.iconst 0, 1) := by decide +kernel
theorem dX10_takeBack_1 : decode cX10_takeBack 1 = .ok (.istore_n 2, 1) := by decide +kernel
theorem dX10_takeBack_2 : decode cX10_takeBack 2 = .ok (.iload_n 2, 1) := by decide +kernel
theorem dX10_takeBack_3 : decode cX10_takeBack 3 = .ok (.iconst 4, 1) := by decide +kernel
theorem dX10_takeBack_4 : decode cX10_takeBack 4 = .ok (.if_icmp .ge 25, 3) := by decide +kernel
theorem dX10_takeBack_7 : decode cX10_takeBack 7 = .ok (.aload_n 0, 1) := by decide +kernel
theorem dX10_takeBack_8 : decode cX10_takeBack 8 = .ok (.getfield 7, 3) := by decide +kernel
theorem dX10_takeBack_11 : decode cX10_takeBack 11 = .ok (.iconst 4, 1) := by decide +kernel
theorem dX10_takeBack_12 : decode cX10_takeBack 12 = .ok (.iload_n 1, 1) := by decide +kernel
theorem dX10_takeBack_13 : decode cX10_takeBack 13 = .ok (.imul, 1) := by decide +kernel
theorem dX10_takeBack_14 : decode cX10_takeBack 14 = .ok (.iload_n 2, 1) := by decide +kernel
theorem dX10_takeBack_15 : decode cX10_takeBack 15 = .ok (.iadd, 1) := by decide +kernel
theorem dX10_takeBack_16 : decode cX10_takeBack 16 = .ok (.aload_n 0, 1) := by decide +kernel
theorem dX10_takeBack_17 : decode cX10_takeBack 17 = .ok (.getfield 58, 3) := by decide +kernel
theorem dX10_takeBack_20 : decode cX10_takeBack 20 = .ok (.iload_n 2, 1) := by decide +kernel
theorem dX10_takeBack_21 : decode cX10_takeBack 21 = .ok (.iaload, 1) := by decide +kernel
theorem dX10_takeBack_22 : decode cX10_takeBack 22 = .ok (.iastore, 1) := by decide +kernel
theorem dX10_takeBack_23 : decode cX10_takeBack 23 = .ok (.iinc 2 1, 3) := by decide +kernel
theorem dX10_takeBack_26 : decode cX10_takeBack 26 = .ok (.goto (-24), 3) := by decide +kernel
theorem dX10_takeBack_29 : decode cX10_takeBack 29 = .ok (.iconst 0, 1) := by decide +kernel
theorem dX10_takeBack_30 : decode cX10_takeBack 30 = .ok (.istore_n 2, 1) := by decide +kernel
theorem dX10_takeBack_31 : decode cX10_takeBack 31 = .ok (.iload_n 2, 1) := by decide +kernel
theorem dX10_takeBack_32 : decode cX10_takeBack 32 = .ok (.bipush 16, 2) := by decide +kernel
theorem dX10_takeBack_34 : decode cX10_takeBack 34 = .ok (.if_icmp .ge 88, 3) := by decide +kernel
theorem dX10_takeBack_37 : decode cX10_takeBack 37 = .ok (.aload_n 0, 1) := by decide +kernel
theorem dX10_takeBack_38 : decode cX10_takeBack 38 = .ok (.getfield 13, 3) := by decide +kernel
theorem dX10_takeBack_41 : decode cX10_takeBack 41 = .ok (.bipush 16, 2) := by decide +kernel
theorem dX10_takeBack_43 : decode cX10_takeBack 43 = .ok (.iload_n 1, 1) := by decide +kernel
theorem dX10_takeBack_44 : decode cX10_takeBack 44 = .ok (.imul, 1) := by decide +kernel
theorem dX10_takeBack_45 : decode cX10_takeBack 45 = .ok (.iload_n 2, 1) := by decide +kernel
theorem dX10_takeBack_46 : decode cX10_takeBack 46 = .ok (.iadd, 1) := by decide +kernel
theorem dX10_takeBack_47 : decode cX10_takeBack 47 = .ok (.aload_n 0, 1) := by decide +kernel
theorem dX10_takeBack_48 : decode cX10_takeBack 48 = .ok (.getfield 58, 3) := by decide +kernel
theorem dX10_takeBack_51 : decode cX10_takeBack 51 = .ok (.iconst 4, 1) := by decide +kernel
theorem dX10_takeBack_52 : decode cX10_takeBack 52 = .ok (.iload_n 2, 1) := by decide +kernel
theorem dX10_takeBack_53 : decode cX10_takeBack 53 = .ok (.iadd, 1) := by decide +kernel
theorem dX10_takeBack_54 : decode cX10_takeBack 54 = .ok (.iaload, 1) := by decide +kernel
theorem dX10_takeBack_55 : decode cX10_takeBack 55 = .ok (.iastore, 1) := by decide +kernel
theorem dX10_takeBack_56 : decode cX10_takeBack 56 = .ok (.aload_n 0, 1) := by decide +kernel
theorem dX10_takeBack_57 : decode cX10_takeBack 57 = .ok (.getfield 16, 3) := by decide +kernel
theorem dX10_takeBack_60 : decode cX10_takeBack 60 = .ok (.bipush 16, 2) := by decide +kernel
theorem dX10_takeBack_62 : decode cX10_takeBack 62 = .ok (.iload_n 1, 1) := by decide +kernel
theorem dX10_takeBack_63 : decode cX10_takeBack 63 = .ok (.imul, 1) := by decide +kernel
theorem dX10_takeBack_64 : decode cX10_takeBack 64 = .ok (.iload_n 2, 1) := by decide +kernel
theorem dX10_takeBack_65 : decode cX10_takeBack 65 = .ok (.iadd, 1) := by decide +kernel
theorem dX10_takeBack_66 : decode cX10_takeBack 66 = .ok (.aload_n 0, 1) := by decide +kernel
theorem dX10_takeBack_67 : decode cX10_takeBack 67 = .ok (.getfield 58, 3) := by decide +kernel
theorem dX10_takeBack_70 : decode cX10_takeBack 70 = .ok (.bipush 20, 2) := by decide +kernel
theorem dX10_takeBack_72 : decode cX10_takeBack 72 = .ok (.iload_n 2, 1) := by decide +kernel
theorem dX10_takeBack_73 : decode cX10_takeBack 73 = .ok (.iadd, 1) := by decide +kernel
theorem dX10_takeBack_74 : decode cX10_takeBack 74 = .ok (.iaload, 1) := by decide +kernel
theorem dX10_takeBack_75 : decode cX10_takeBack 75 = .ok (.iastore, 1) := by decide +kernel
theorem dX10_takeBack_76 : decode cX10_takeBack 76 = .ok (.aload_n 0, 1) := by decide +kernel
theorem dX10_takeBack_77 : decode cX10_takeBack 77 = .ok (.getfield 19, 3) := by decide +kernel
theorem dX10_takeBack_80 : decode cX10_takeBack 80 = .ok (.bipush 16, 2) := by decide +kernel
theorem dX10_takeBack_82 : decode cX10_takeBack 82 = .ok (.iload_n 1, 1) := by decide +kernel
theorem dX10_takeBack_83 : decode cX10_takeBack 83 = .ok (.imul, 1) := by decide +kernel
theorem dX10_takeBack_84 : decode cX10_takeBack 84 = .ok (.iload_n 2, 1) := by decide +kernel
theorem dX10_takeBack_85 : decode cX10_takeBack 85 = .ok (.iadd, 1) := by decide +kernel
theorem dX10_takeBack_86 : decode cX10_takeBack 86 = .ok (.aload_n 0, 1) := by decide +kernel
theorem dX10_takeBack_87 : decode cX10_takeBack 87 = .ok (.getfield 58, 3) := by decide +kernel
theorem dX10_takeBack_90 : decode cX10_takeBack 90 = .ok (.bipush 36, 2) := by decide +kernel
theorem dX10_takeBack_92 : decode cX10_takeBack 92 = .ok (.iload_n 2, 1) := by decide +kernel
theorem dX10_takeBack_93 : decode cX10_takeBack 93 = .ok (.iadd, 1) := by decide +kernel
theorem dX10_takeBack_94 : decode cX10_takeBack 94 = .ok (.iaload, 1) := by decide +kernel
theorem dX10_takeBack_95 : decode cX10_takeBack 95 = .ok (.iastore, 1) := by decide +kernel
theorem dX10_takeBack_96 : decode cX10_takeBack 96 = .ok (.aload_n 0, 1) := by decide +kernel
theorem dX10_takeBack_97 : decode cX10_takeBack 97 = .ok (.getfield 22, 3) := by decide +kernel
theorem dX10_takeBack_100 : decode cX10_takeBack 100 = .ok (.bipush 16, 2) := by decide +kernel
theorem dX10_takeBack_102 : decode cX10_takeBack 102 = .ok (.iload_n 1, 1) := by decide +kernel
theorem dX10_takeBack_103 : decode cX10_takeBack 103 = .ok (.imul, 1) := by decide +kernel
theorem dX10_takeBack_104 : decode cX10_takeBack 104 = .ok (.iload_n 2, 1) := by decide +kernel
theorem dX10_takeBack_105 : decode cX10_takeBack 105 = .ok (.iadd, 1) := by decide +kernel
theorem dX10_takeBack_106 : decode cX10_takeBack 106 = .ok (.aload_n 0, 1) := by decide +kernel
theorem dX10_takeBack_107 : decode cX10_takeBack 107 = .ok (.getfield 58, 3) := by decide +kernel
theorem dX10_takeBack_110 : decode cX10_takeBack 110 = .ok (.bipush 52, 2) := by decide +kernel
theorem dX10_takeBack_112 : decode cX10_takeBack 112 = .ok (.iload_n 2, 1) := by decide +kernel
theorem dX10_takeBack_113 : decode cX10_takeBack 113 = .ok (.iadd, 1) := by decide +kernel
theorem dX10_takeBack_114 : decode cX10_takeBack 114 = .ok (.iaload, 1) := by decide +kernel
theorem dX10_takeBack_115 : decode cX10_takeBack 115 = .ok (.iastore, 1) := by decide +kernel
theorem dX10_takeBack_116 : decode cX10_takeBack 116 = .ok (.iinc 2 1, 3) := by decide +kernel
theorem dX10_takeBack_119 : decode cX10_takeBack 119 = .ok (.goto (-88), 3) := by decide +kernel
theorem dX10_takeBack_122 : decode cX10_takeBack 122 = .ok (.aload_n 0, 1) := by decide +kernel
theorem dX10_takeBack_123 : decode cX10_takeBack 123 = .ok (.getfield 25, 3) := by decide +kernel
theorem dX10_takeBack_126 : decode cX10_takeBack 126 = .ok (.iload_n 1, 1) := by decide +kernel
theorem dX10_takeBack_127 : decode cX10_takeBack 127 = .ok (.aload_n 0, 1) := by decide +kernel
theorem dX10_takeBack_128 : decode cX10_takeBack 128 = .ok (.getfield 58, 3) := by decide +kernel
theorem dX10_takeBack_131 : decode cX10_takeBack 131 = .ok (.bipush 68, 2) := by decide +kernel
theorem dX10_takeBack_133 : decode cX10_takeBack 133 = .ok (.iaload, 1) := by decide +kernel
theorem dX10_takeBack_134 : decode cX10_takeBack 134 = .ok (.iastore, 1) := by decide +kernel
theorem dX10_takeBack_135 : decode cX10_takeBack 135 = .ok (.iconst 0, 1) := by decide +kernel
theorem dX10_takeBack_136 : decode cX10_takeBack 136 = .ok (.istore_n 2, 1) := by decide +kernel
theorem dX10_takeBack_137 : decode cX10_takeBack 137 = .ok (.iload_n 2, 1) := by decide +kernel
theorem dX10_takeBack_138 : decode cX10_takeBack 138 = .ok (.bipush 40, 2) := by decide +kernel
theorem dX10_takeBack_140 : decode cX10_takeBack 140 = .ok (.if_icmp .ge 70, 3) := by decide +kernel
theorem dX10_takeBack_143 : decode cX10_takeBack 143 = .ok (.aload_n 0, 1) := by decide +kernel
theorem dX10_takeBack_144 : decode cX10_takeBack 144 = .ok (.getfield 28, 3) := by decide +kernel
theorem dX10_takeBack_147 : decode cX10_takeBack 147 = .ok (.bipush 40, 2) := by decide +kernel
theorem dX10_takeBack_149 : decode cX10_takeBack 149 = .ok (.iload_n 1, 1) := by decide +kernel
theorem dX10_takeBack_150 : decode cX10_takeBack 150 = .ok (.imul, 1) := by decide +kernel
theorem dX10_takeBack_151 : decode cX10_takeBack 151 = .ok (.iload_n 2, 1) := by decide +kernel
theorem dX10_takeBack_152 : decode cX10_takeBack 152 = .ok (.iadd, 1) := by decide +kernel
theorem dX10_takeBack_153 : decode cX10_takeBack 153 = .ok (.aload_n 0, 1) := by decide +kernel
theorem dX10_takeBack_154 : decode cX10_takeBack 154 = .ok (.getfield 58, 3) := by decide +kernel
theorem dX10_takeBack_157 : decode cX10_takeBack 157 = .ok (.bipush 70, 2) := by decide +kernel
theorem dX10_takeBack_159 : decode cX10_takeBack 159 = .ok (.iload_n 2, 1) := by decide +kernel
theorem dX10_takeBack_160 : decode cX10_takeBack 160 = .ok (.iadd, 1) := by decide +kernel
theorem dX10_takeBack_161 : decode cX10_takeBack 161 = .ok (.iaload, 1) := by decide +kernel
theorem dX10_takeBack_162 : decode cX10_takeBack 162 = .ok (.iastore, 1) := by decide +kernel
theorem dX10_takeBack_163 : decode cX10_takeBack 163 = .ok (.aload_n 0, 1) := by decide +kernel
theorem dX10_takeBack_164 : decode cX10_takeBack 164 = .ok (.getfield 31, 3) := by decide +kernel
theorem dX10_takeBack_167 : decode cX10_takeBack 167 = .ok (.bipush 40, 2) := by decide +kernel
theorem dX10_takeBack_169 : decode cX10_takeBack 169 = .ok (.iload_n 1, 1) := by decide +kernel
theorem dX10_takeBack_170 : decode cX10_takeBack 170 = .ok (.imul, 1) := by decide +kernel
theorem dX10_takeBack_171 : decode cX10_takeBack 171 = .ok (.iload_n 2, 1) := by decide +kernel
theorem dX10_takeBack_172 : decode cX10_takeBack 172 = .ok (.iadd, 1) := by decide +kernel
theorem dX10_takeBack_173 : decode cX10_takeBack 173 = .ok (.aload_n 0, 1) := by decide +kernel
theorem dX10_takeBack_174 : decode cX10_takeBack 174 = .ok (.getfield 58, 3) := by decide +kernel
theorem dX10_takeBack_177 : decode cX10_takeBack 177 = .ok (.bipush 110, 2) := by decide +kernel
theorem dX10_takeBack_179 : decode cX10_takeBack 179 = .ok (.iload_n 2, 1) := by decide +kernel
theorem dX10_takeBack_180 : decode cX10_takeBack 180 = .ok (.iadd, 1) := by decide +kernel
theorem dX10_takeBack_181 : decode cX10_takeBack 181 = .ok (.iaload, 1) := by decide +kernel
theorem dX10_takeBack_182 : decode cX10_takeBack 182 = .ok (.iastore, 1) := by decide +kernel
theorem dX10_takeBack_183 : decode cX10_takeBack 183 = .ok (.aload_n 0, 1) := by decide +kernel
theorem dX10_takeBack_184 : decode cX10_takeBack 184 = .ok (.getfield 34, 3) := by decide +kernel
theorem dX10_takeBack_187 : decode cX10_takeBack 187 = .ok (.bipush 40, 2) := by decide +kernel
theorem dX10_takeBack_189 : decode cX10_takeBack 189 = .ok (.iload_n 1, 1) := by decide +kernel
theorem dX10_takeBack_190 : decode cX10_takeBack 190 = .ok (.imul, 1) := by decide +kernel
theorem dX10_takeBack_191 : decode cX10_takeBack 191 = .ok (.iload_n 2, 1) := by decide +kernel
theorem dX10_takeBack_192 : decode cX10_takeBack 192 = .ok (.iadd, 1) := by decide +kernel
theorem dX10_takeBack_193 : decode cX10_takeBack 193 = .ok (.aload_n 0, 1) := by decide +kernel
theorem dX10_takeBack_194 : decode cX10_takeBack 194 = .ok (.getfield 58, 3) := by decide +kernel
theorem dX10_takeBack_197 : decode cX10_takeBack 197 = .ok (.sipush 150, 3) := by decide +kernel
theorem dX10_takeBack_200 : decode cX10_takeBack 200 = .ok (.iload_n 2, 1) := by decide +kernel
theorem dX10_takeBack_201 : decode cX10_takeBack 201 = .ok (.iadd, 1) := by decide +kernel
theorem dX10_takeBack_202 : decode cX10_takeBack 202 = .ok (.iaload, 1) := by decide +kernel
theorem dX10_takeBack_203 : decode cX10_takeBack 203 = .ok (.iastore, 1) := by decide +kernel
theorem dX10_takeBack_204 : decode cX10_takeBack 204 = .ok (.iinc 2 1, 3) := by decide +kernel
theorem dX10_takeBack_207 : decode cX10_takeBack 207 = .ok (.goto (-70), 3) := by decide +kernel
theorem dX10_takeBack_210 : decode cX10_takeBack 210 = .ok (.iconst 0, 1) := by decide +kernel
theorem dX10_takeBack_211 : decode cX10_takeBack 211 = .ok (.istore_n 2, 1) := by decide +kernel
theorem dX10_takeBack_212 : decode cX10_takeBack 212 = .ok (.iload_n 2, 1) := by decide +kernel
theorem dX10_takeBack_213 : decode cX10_takeBack 213 = .ok (.sipush 240, 3) := by decide +kernel
theorem dX10_takeBack_216 : decode cX10_takeBack 216 = .ok (.if_icmp .ge 31, 3) := by decide +kernel
theorem dX10_takeBack_219 : decode cX10_takeBack 219 = .ok (.aload_n 0, 1) := by decide +kernel
theorem dX10_takeBack_220 : decode cX10_takeBack 220 = .ok (.getfield 37, 3) := by decide +kernel
theorem dX10_takeBack_223 : decode cX10_takeBack 223 = .ok (.sipush 240, 3) := by decide +kernel
theorem dX10_takeBack_226 : decode cX10_takeBack 226 = .ok (.iload_n 1, 1) := by decide +kernel
theorem dX10_takeBack_227 : decode cX10_takeBack 227 = .ok (.imul, 1) := by decide +kernel
theorem dX10_takeBack_228 : decode cX10_takeBack 228 = .ok (.iload_n 2, 1) := by decide +kernel
theorem dX10_takeBack_229 : decode cX10_takeBack 229 = .ok (.iadd, 1) := by decide +kernel
theorem dX10_takeBack_230 : decode cX10_takeBack 230 = .ok (.aload_n 0, 1) := by decide +kernel
theorem dX10_takeBack_231 : decode cX10_takeBack 231 = .ok (.getfield 58, 3) := by decide +kernel
theorem dX10_takeBack_234 : decode cX10_takeBack 234 = .ok (.sipush 200, 3) := by decide +kernel
theorem dX10_takeBack_237 : decode cX10_takeBack 237 = .ok (.iload_n 2, 1) := by decide +kernel
theorem dX10_takeBack_238 : decode cX10_takeBack 238 = .ok (.iadd, 1) := by decide +kernel
theorem dX10_takeBack_239 : decode cX10_takeBack 239 = .ok (.iaload, 1) := by decide +kernel
theorem dX10_takeBack_240 : decode cX10_takeBack 240 = .ok (.iastore, 1) := by decide +kernel
theorem dX10_takeBack_241 : decode cX10_takeBack 241 = .ok (.iinc 2 1, 3) := by decide +kernel
theorem dX10_takeBack_244 : decode cX10_takeBack 244 = .ok (.goto (-32), 3) := by decide +kernel
theorem dX10_takeBack_247 : decode cX10_takeBack 247 = .ok (.return_, 1) := by decide +kernel
theorem dX10_make_0 : decode cX10_make 0 = .ok (.iload_n 1, 1) := by decide +kernel
theorem dX10_make_1 : decode cX10_make 1 = .ok (.invokestatic 167, 3) := by decide +kernel
theorem dX10_make_4 : decode cX10_make 4 = .ok (.ifCond .ne 10, 3) := by decide +kernel
theorem dX10_make_7 : decode cX10_make 7 = .ok (.aload_n 0, 1) := by decide +kernel
theorem dX10_make_8 : decode cX10_make 8 = .ok (.bipush (-2), 2) := by decide +kernel
theorem dX10_make_10 : decode cX10_make 10 = .ok (.invokevirtual 173, 3) := by decide +kernel
theorem dX10_make_13 : decode cX10_make 13 = .ok (.ireturn, 1) := by decide +kernel
theorem dX10_make_14 : decode cX10_make 14 = .ok (.iload_n 3, 1) := by decide +kernel
theorem dX10_make_15 : decode cX10_make 15 = .ok (.i2l, 1) := by decide +kernel
theorem dX10_make_16 : decode cX10_make 16 = .ok (.lconst 0, 1) := by decide +kernel
theorem dX10_make_17 : decode cX10_make 17 = .ok (.ldc2_w 233, 3) := by decide +kernel
theorem dX10_make_20 : decode cX10_make 20 = .ok (.invokestatic 152, 3) := by decide +kernel
theorem dX10_make_23 : decode cX10_make 23 = .ok (.ifCond .ne 10, 3) := by decide +kernel
theorem dX10_make_26 : decode cX10_make 26 = .ok (.aload_n 0, 1) := by decide +kernel
theorem dX10_make_27 : decode cX10_make 27 = .ok (.bipush (-3), 2) := by decide +kernel
theorem dX10_make_29 : decode cX10_make 29 = .ok (.invokevirtual 173, 3) := by decide +kernel
theorem dX10_make_32 : decode cX10_make 32 = .ok (.ireturn, 1) := by decide +kernel
theorem dX10_make_33 : decode cX10_make 33 = .ok (.aload_n 0, 1) := by decide +kernel
theorem dX10_make_34 : decode cX10_make 34 = .ok (.iload_n 1, 1) := by decide +kernel
theorem dX10_make_35 : decode cX10_make 35 = .ok (.invokevirtual 235, 3) := by decide +kernel
theorem dX10_make_38 : decode cX10_make 38 = .ok (.iconst (-1), 1) := by decide +kernel
theorem dX10_make_39 : decode cX10_make 39 = .ok (.istore 4, 2) := by decide +kernel
theorem dX10_make_41 : decode cX10_make 41 = .ok (.iconst 0, 1) := by decide +kernel
theorem dX10_make_42 : decode cX10_make 42 = .ok (.istore 5, 2) := by decide +kernel
theorem dX10_make_44 : decode cX10_make 44 = .ok (.iload 5, 2) := by decide +kernel
theorem dX10_make_46 : decode cX10_make 46 = .ok (.bipush 6, 2) := by decide +kernel
theorem dX10_make_48 : decode cX10_make 48 = .ok (.if_icmp .ge 70, 3) := by decide +kernel
theorem dX10_make_51 : decode cX10_make 51 = .ok (.iload 4, 2) := by decide +kernel
theorem dX10_make_53 : decode cX10_make 53 = .ok (.iconst (-1), 1) := by decide +kernel
theorem dX10_make_54 : decode cX10_make 54 = .ok (.if_icmp .ne 64, 3) := by decide +kernel
theorem dX10_make_57 : decode cX10_make 57 = .ok (.aload_n 0, 1) := by decide +kernel
theorem dX10_make_58 : decode cX10_make 58 = .ok (.iload_n 1, 1) := by decide +kernel
theorem dX10_make_59 : decode cX10_make 59 = .ok (.iload_n 2, 1) := by decide +kernel
theorem dX10_make_60 : decode cX10_make 60 = .ok (.iload 5, 2) := by decide +kernel
theorem dX10_make_62 : decode cX10_make 62 = .ok (.iadd, 1) := by decide +kernel
theorem dX10_make_63 : decode cX10_make 63 = .ok (.invokevirtual 238, 3) := by decide +kernel
theorem dX10_make_66 : decode cX10_make 66 = .ok (.aload_n 0, 1) := by decide +kernel
theorem dX10_make_67 : decode cX10_make 67 = .ok (.iload_n 1, 1) := by decide +kernel
theorem dX10_make_68 : decode cX10_make 68 = .ok (.invokevirtual 242, 3) := by decide +kernel
theorem dX10_make_71 : decode cX10_make 71 = .ok (.aload_n 0, 1) := by decide +kernel
theorem dX10_make_72 : decode cX10_make 72 = .ok (.sipush 1024, 3) := by decide +kernel
theorem dX10_make_75 : decode cX10_make 75 = .ok (.invokevirtual 245, 3) := by decide +kernel
theorem dX10_make_78 : decode cX10_make 78 = .ok (.aload_n 0, 1) := by decide +kernel
theorem dX10_make_79 : decode cX10_make 79 = .ok (.getfield 248, 3) := by decide +kernel
theorem dX10_make_82 : decode cX10_make 82 = .ok (.iconst (-1), 1) := by decide +kernel
theorem dX10_make_83 : decode cX10_make 83 = .ok (.if_icmp .eq 26, 3) := by decide +kernel
theorem dX10_make_86 : decode cX10_make 86 = .ok (.aload_n 0, 1) := by decide +kernel
theorem dX10_make_87 : decode cX10_make 87 = .ok (.getfield 74, 3) := by decide +kernel
theorem dX10_make_90 : decode cX10_make 90 = .ok (.aload_n 0, 1) := by decide +kernel
theorem dX10_make_91 : decode cX10_make 91 = .ok (.getfield 71, 3) := by decide +kernel
theorem dX10_make_94 : decode cX10_make 94 = .ok (.aload_n 0, 1) := by decide +kernel
theorem dX10_make_95 : decode cX10_make 95 = .ok (.getfield 248, 3) := by decide +kernel
theorem dX10_make_98 : decode cX10_make 98 = .ok (.iaload, 1) := by decide +kernel
theorem dX10_make_99 : decode cX10_make 99 = .ok (.iaload, 1) := by decide +kernel
theorem dX10_make_100 : decode cX10_make 100 = .ok (.iload_n 3, 1) := by decide +kernel
theorem dX10_make_101 : decode cX10_make 101 = .ok (.if_icmp .ne 8, 3) := by decide +kernel
theorem dX10_make_104 : decode cX10_make 104 = .ok (.iload 5, 2) := by decide +kernel
theorem dX10_make_106 : decode cX10_make 106 = .ok (.goto 4, 3) := by decide +kernel
theorem dX10_make_109 : decode cX10_make 109 = .ok (.iconst (-1), 1) := by decide +kernel
theorem dX10_make_110 : decode cX10_make 110 = .ok (.istore 4, 2) := by decide +kernel
theorem dX10_make_112 : decode cX10_make 112 = .ok (.iinc 5 1, 3) := by decide +kernel
theorem dX10_make_115 : decode cX10_make 115 = .ok (.goto (-71), 3) := by decide +kernel
theorem dX10_make_118 : decode cX10_make 118 = .ok (.aload_n 0, 1) := by decide +kernel
theorem dX10_make_119 : decode cX10_make 119 = .ok (.iconst 0, 1) := by decide +kernel
theorem dX10_make_120 : decode cX10_make 120 = .ok (.putfield 161, 3) := by decide +kernel
theorem dX10_make_123 : decode cX10_make 123 = .ok (.aload_n 0, 1) := by decide +kernel
theorem dX10_make_124 : decode cX10_make 124 = .ok (.iconst 0, 1) := by decide +kernel
theorem dX10_make_125 : decode cX10_make 125 = .ok (.putfield 158, 3) := by decide +kernel
theorem dX10_make_128 : decode cX10_make 128 = .ok (.iload 4, 2) := by decide +kernel
theorem dX10_make_130 : decode cX10_make 130 = .ok (.iconst (-1), 1) := by decide +kernel
theorem dX10_make_131 : decode cX10_make 131 = .ok (.if_icmp .ne 11, 3) := by decide +kernel
theorem dX10_make_134 : decode cX10_make 134 = .ok (.aload_n 0, 1) := by decide +kernel
theorem dX10_make_135 : decode cX10_make 135 = .ok (.iload_n 1, 1) := by decide +kernel
theorem dX10_make_136 : decode cX10_make 136 = .ok (.invokevirtual 251, 3) := by decide +kernel
theorem dX10_make_139 : decode cX10_make 139 = .ok (.goto 10, 3) := by decide +kernel
theorem dX10_make_142 : decode cX10_make 142 = .ok (.aload_n 0, 1) := by decide +kernel
theorem dX10_make_143 : decode cX10_make 143 = .ok (.getfield 46, 3) := by decide +kernel
theorem dX10_make_146 : decode cX10_make 146 = .ok (.iload_n 1, 1) := by decide +kernel
theorem dX10_make_147 : decode cX10_make 147 = .ok (.iconst 0, 1) := by decide +kernel
theorem dX10_make_148 : decode cX10_make 148 = .ok (.iastore, 1) := by decide +kernel
theorem dX10_make_149 : decode cX10_make 149 = .ok (.aload_n 0, 1) := by decide +kernel
theorem dX10_make_150 : decode cX10_make 150 = .ok (.iload 4, 2) := by decide +kernel
theorem dX10_make_152 : decode cX10_make 152 = .ok (.invokevirtual 183, 3) := by decide +kernel
theorem dX10_make_155 : decode cX10_make 155 = .ok (.ireturn, 1) := by decide +kernel
theorem dX10_tells_0 : decode cX10_tells 0 = .ok (.aload_n 0, 1) := by decide +kernel
theorem dX10_tells_1 : decode cX10_tells 1 = .ok (.getfield 13, 3) := by decide +kernel
theorem dX10_tells_4 : decode cX10_tells 4 = .ok (.iload_n 1, 1) := by decide +kernel
theorem dX10_tells_5 : decode cX10_tells 5 = .ok (.iaload, 1) := by decide +kernel
theorem dX10_tells_6 : decode cX10_tells 6 = .ok (.istore_n 2, 1) := by decide +kernel
theorem dX10_tells_7 : decode cX10_tells 7 = .ok (.iload_n 2, 1) := by decide +kernel
theorem dX10_tells_8 : decode cX10_tells 8 = .ok (.iconst 1, 1) := by decide +kernel
theorem dX10_tells_9 : decode cX10_tells 9 = .ok (.if_icmp .ne 7, 3) := by decide +kernel
theorem dX10_tells_12 : decode cX10_tells 12 = .ok (.iconst 2, 1) := by decide +kernel
theorem dX10_tells_13 : decode cX10_tells 13 = .ok (.goto 22, 3) := by decide +kernel
theorem dX10_tells_16 : decode cX10_tells 16 = .ok (.iload_n 2, 1) := by decide +kernel
theorem dX10_tells_17 : decode cX10_tells 17 = .ok (.iconst 3, 1) := by decide +kernel
theorem dX10_tells_18 : decode cX10_tells 18 = .ok (.if_icmp .ne 7, 3) := by decide +kernel
theorem dX10_tells_21 : decode cX10_tells 21 = .ok (.iconst 3, 1) := by decide +kernel
theorem dX10_tells_22 : decode cX10_tells 22 = .ok (.goto 13, 3) := by decide +kernel
theorem dX10_tells_25 : decode cX10_tells 25 = .ok (.iload_n 2, 1) := by decide +kernel
theorem dX10_tells_26 : decode cX10_tells 26 = .ok (.iconst 4, 1) := by decide +kernel
theorem dX10_tells_27 : decode cX10_tells 27 = .ok (.if_icmp .ne 7, 3) := by decide +kernel
theorem dX10_tells_30 : decode cX10_tells 30 = .ok (.iconst 4, 1) := by decide +kernel
theorem dX10_tells_31 : decode cX10_tells 31 = .ok (.goto 4, 3) := by decide +kernel
theorem dX10_tells_34 : decode cX10_tells 34 = .ok (.iconst 0, 1) := by decide +kernel
theorem dX10_tells_35 : decode cX10_tells 35 = .ok (.istore_n 3, 1) := by decide +kernel
theorem dX10_tells_36 : decode cX10_tells 36 = .ok (.iload_n 3, 1) := by decide +kernel
theorem dX10_tells_37 : decode cX10_tells 37 = .ok (.ifCond .le 8, 3) := by decide +kernel
theorem dX10_tells_40 : decode cX10_tells 40 = .ok (.aload_n 0, 1) := by decide +kernel
theorem dX10_tells_41 : decode cX10_tells 41 = .ok (.iload_n 3, 1) := by decide +kernel
theorem dX10_tells_42 : decode cX10_tells 42 = .ok (.invokevirtual 254, 3) := by decide +kernel
theorem dX10_tells_45 : decode cX10_tells 45 = .ok (.aload_n 0, 1) := by decide +kernel
theorem dX10_tells_46 : decode cX10_tells 46 = .ok (.iconst 1, 1) := by decide +kernel
theorem dX10_tells_47 : decode cX10_tells 47 = .ok (.invokevirtual 254, 3) := by decide +kernel
theorem dX10_tells_50 : decode cX10_tells 50 = .ok (.iload_n 2, 1) := by decide +kernel
theorem dX10_tells_51 : decode cX10_tells 51 = .ok (.iconst 1, 1) := by decide +kernel
theorem dX10_tells_52 : decode cX10_tells 52 = .ok (.if_icmp .ne 21, 3) := by decide +kernel
theorem dX10_tells_55 : decode cX10_tells 55 = .ok (.aload_n 0, 1) := by decide +kernel
theorem dX10_tells_56 : decode cX10_tells 56 = .ok (.getfield 19, 3) := by decide +kernel
theorem dX10_tells_59 : decode cX10_tells 59 = .ok (.iload_n 1, 1) := by decide +kernel
theorem dX10_tells_60 : decode cX10_tells 60 = .ok (.iaload, 1) := by decide +kernel
theorem dX10_tells_61 : decode cX10_tells 61 = .ok (.iconst 1, 1) := by decide +kernel
theorem dX10_tells_62 : decode cX10_tells 62 = .ok (.iadd, 1) := by decide +kernel
theorem dX10_tells_63 : decode cX10_tells 63 = .ok (.aload_n 0, 1) := by decide +kernel
theorem dX10_tells_64 : decode cX10_tells 64 = .ok (.getfield 16, 3) := by decide +kernel
theorem dX10_tells_67 : decode cX10_tells 67 = .ok (.iload_n 1, 1) := by decide +kernel
theorem dX10_tells_68 : decode cX10_tells 68 = .ok (.iaload, 1) := by decide +kernel
theorem dX10_tells_69 : decode cX10_tells 69 = .ok (.irem, 1) := by decide +kernel
theorem dX10_tells_70 : decode cX10_tells 70 = .ok (.goto 54, 3) := by decide +kernel
theorem dX10_tells_73 : decode cX10_tells 73 = .ok (.iload_n 2, 1) := by decide +kernel
theorem dX10_tells_74 : decode cX10_tells 74 = .ok (.iconst 3, 1) := by decide +kernel
theorem dX10_tells_75 : decode cX10_tells 75 = .ok (.if_icmp .ne 21, 3) := by decide +kernel
theorem dX10_tells_78 : decode cX10_tells 78 = .ok (.aload_n 0, 1) := by decide +kernel
theorem dX10_tells_79 : decode cX10_tells 79 = .ok (.getfield 16, 3) := by decide +kernel
theorem dX10_tells_82 : decode cX10_tells 82 = .ok (.iload_n 1, 1) := by decide +kernel
theorem dX10_tells_83 : decode cX10_tells 83 = .ok (.iaload, 1) := by decide +kernel
theorem dX10_tells_84 : decode cX10_tells 84 = .ok (.iconst 1, 1) := by decide +kernel
theorem dX10_tells_85 : decode cX10_tells 85 = .ok (.isub, 1) := by decide +kernel
theorem dX10_tells_86 : decode cX10_tells 86 = .ok (.aload_n 0, 1) := by decide +kernel
theorem dX10_tells_87 : decode cX10_tells 87 = .ok (.getfield 19, 3) := by decide +kernel
theorem dX10_tells_90 : decode cX10_tells 90 = .ok (.iload_n 1, 1) := by decide +kernel
theorem dX10_tells_91 : decode cX10_tells 91 = .ok (.iaload, 1) := by decide +kernel
theorem dX10_tells_92 : decode cX10_tells 92 = .ok (.isub, 1) := by decide +kernel
theorem dX10_tells_93 : decode cX10_tells 93 = .ok (.goto 31, 3) := by decide +kernel
theorem dX10_tells_96 : decode cX10_tells 96 = .ok (.iload_n 2, 1) := by decide +kernel
theorem dX10_tells_97 : decode cX10_tells 97 = .ok (.iconst 4, 1) := by decide +kernel
theorem dX10_tells_98 : decode cX10_tells 98 = .ok (.if_icmp .ne 20, 3) := by decide +kernel
theorem dX10_tells_101 : decode cX10_tells 101 = .ok (.aload_n 0, 1) := by decide +kernel
theorem dX10_tells_102 : decode cX10_tells 102 = .ok (.getfield 19, 3) := by decide +kernel
theorem dX10_tells_105 : decode cX10_tells 105 = .ok (.iload_n 1, 1) := by decide +kernel
theorem dX10_tells_106 : decode cX10_tells 106 = .ok (.iaload, 1) := by decide +kernel
theorem dX10_tells_107 : decode cX10_tells 107 = .ok (.ifCond .ne 7, 3) := by decide +kernel
theorem dX10_tells_110 : decode cX10_tells 110 = .ok (.iconst 0, 1) := by decide +kernel
theorem dX10_tells_111 : decode cX10_tells 111 = .ok (.goto 13, 3) := by decide +kernel
theorem dX10_tells_114 : decode cX10_tells 114 = .ok (.iconst 1, 1) := by decide +kernel
theorem dX10_tells_115 : decode cX10_tells 115 = .ok (.goto 9, 3) := by decide +kernel
theorem dX10_tells_118 : decode cX10_tells 118 = .ok (.aload_n 0, 1) := by decide +kernel
theorem dX10_tells_119 : decode cX10_tells 119 = .ok (.getfield 19, 3) := by decide +kernel
theorem dX10_tells_122 : decode cX10_tells 122 = .ok (.iload_n 1, 1) := by decide +kernel
theorem dX10_tells_123 : decode cX10_tells 123 = .ok (.iaload, 1) := by decide +kernel
theorem dX10_tells_124 : decode cX10_tells 124 = .ok (.ireturn, 1) := by decide +kernel
theorem dX10_holding_0 : decode cX10_holding 0 = .ok (.bipush 40, 2) := by decide +kernel
theorem dX10_holding_2 : decode cX10_holding 2 = .ok (.iload_n 1, 1) := by decide +kernel
theorem dX10_holding_3 : decode cX10_holding 3 = .ok (.imul, 1) := by decide +kernel
theorem dX10_holding_4 : decode cX10_holding 4 = .ok (.iload_n 2, 1) := by decide +kernel
theorem dX10_holding_5 : decode cX10_holding 5 = .ok (.iadd, 1) := by decide +kernel
theorem dX10_holding_6 : decode cX10_holding 6 = .ok (.istore_n 3, 1) := by decide +kernel
theorem dX10_holding_7 : decode cX10_holding 7 = .ok (.bipush 16, 2) := by decide +kernel
theorem dX10_holding_9 : decode cX10_holding 9 = .ok (.iload_n 1, 1) := by decide +kernel
theorem dX10_holding_10 : decode cX10_holding 10 = .ok (.imul, 1) := by decide +kernel
theorem dX10_holding_11 : decode cX10_holding 11 = .ok (.aload_n 0, 1) := by decide +kernel
theorem dX10_holding_12 : decode cX10_holding 12 = .ok (.getfield 31, 3) := by decide +kernel
theorem dX10_holding_15 : decode cX10_holding 15 = .ok (.iload_n 3, 1) := by decide +kernel
theorem dX10_holding_16 : decode cX10_holding 16 = .ok (.iaload, 1) := by decide +kernel
theorem dX10_holding_17 : decode cX10_holding 17 = .ok (.iadd, 1) := by decide +kernel
theorem dX10_holding_18 : decode cX10_holding 18 = .ok (.istore 4, 2) := by decide +kernel
theorem dX10_holding_20 : decode cX10_holding 20 = .ok (.aload_n 0, 1) := by decide +kernel
theorem dX10_holding_21 : decode cX10_holding 21 = .ok (.aload_n 0, 1) := by decide +kernel
theorem dX10_holding_22 : decode cX10_holding 22 = .ok (.iload_n 1, 1) := by decide +kernel
theorem dX10_holding_23 : decode cX10_holding 23 = .ok (.aload_n 0, 1) := by decide +kernel
theorem dX10_holding_24 : decode cX10_holding 24 = .ok (.getfield 31, 3) := by decide +kernel
theorem dX10_holding_27 : decode cX10_holding 27 = .ok (.iload_n 3, 1) := by decide +kernel
theorem dX10_holding_28 : decode cX10_holding 28 = .ok (.iaload, 1) := by decide +kernel
theorem dX10_holding_29 : decode cX10_holding 29 = .ok (.invokevirtual 204, 3) := by decide +kernel
theorem dX10_holding_32 : decode cX10_holding 32 = .ok (.putfield 257, 3) := by decide +kernel
theorem dX10_holding_35 : decode cX10_holding 35 = .ok (.aload_n 0, 1) := by decide +kernel
theorem dX10_holding_36 : decode cX10_holding 36 = .ok (.getfield 257, 3) := by decide +kernel
theorem dX10_holding_39 : decode cX10_holding 39 = .ok (.ifCond .eq 5, 3) := by decide +kernel
theorem dX10_holding_42 : decode cX10_holding 42 = .ok (.iconst 0, 1) := by decide +kernel
theorem dX10_holding_43 : decode cX10_holding 43 = .ok (.ireturn, 1) := by decide +kernel
theorem dX10_holding_44 : decode cX10_holding 44 = .ok (.aload_n 0, 1) := by decide +kernel
theorem dX10_holding_45 : decode cX10_holding 45 = .ok (.getfield 13, 3) := by decide +kernel
theorem dX10_holding_48 : decode cX10_holding 48 = .ok (.iload 4, 2) := by decide +kernel
theorem dX10_holding_50 : decode cX10_holding 50 = .ok (.iaload, 1) := by decide +kernel
theorem dX10_holding_51 : decode cX10_holding 51 = .ok (.iconst 5, 1) := by decide +kernel
theorem dX10_holding_52 : decode cX10_holding 52 = .ok (.if_icmp .ne 10, 3) := by decide +kernel
theorem dX10_holding_55 : decode cX10_holding 55 = .ok (.aload_n 0, 1) := by decide +kernel
theorem dX10_holding_56 : decode cX10_holding 56 = .ok (.iconst 3, 1) := by decide +kernel
theorem dX10_holding_57 : decode cX10_holding 57 = .ok (.putfield 257, 3) := by decide +kernel
theorem dX10_holding_60 : decode cX10_holding 60 = .ok (.iconst 0, 1) := by decide +kernel
theorem dX10_holding_61 : decode cX10_holding 61 = .ok (.ireturn, 1) := by decide +kernel
theorem dX10_holding_62 : decode cX10_holding 62 = .ok (.aload_n 0, 1) := by decide +kernel
theorem dX10_holding_63 : decode cX10_holding 63 = .ok (.iload 4, 2) := by decide +kernel
theorem dX10_holding_65 : decode cX10_holding 65 = .ok (.invokevirtual 260, 3) := by decide +kernel
theorem dX10_holding_68 : decode cX10_holding 68 = .ok (.istore 5, 2) := by decide +kernel
theorem dX10_holding_70 : decode cX10_holding 70 = .ok (.aload_n 0, 1) := by decide +kernel
theorem dX10_holding_71 : decode cX10_holding 71 = .ok (.aload_n 0, 1) := by decide +kernel
theorem dX10_holding_72 : decode cX10_holding 72 = .ok (.getfield 34, 3) := by decide +kernel
theorem dX10_holding_75 : decode cX10_holding 75 = .ok (.iload_n 3, 1) := by decide +kernel
theorem dX10_holding_76 : decode cX10_holding 76 = .ok (.iaload, 1) := by decide +kernel
theorem dX10_holding_77 : decode cX10_holding 77 = .ok (.iconst (-1), 1) := by decide +kernel
theorem dX10_holding_78 : decode cX10_holding 78 = .ok (.if_icmp .ne 7, 3) := by decide +kernel
theorem dX10_holding_81 : decode cX10_holding 81 = .ok (.iconst 1, 1) := by decide +kernel
theorem dX10_holding_82 : decode cX10_holding 82 = .ok (.goto 19, 3) := by decide +kernel
theorem dX10_holding_85 : decode cX10_holding 85 = .ok (.iload 5, 2) := by decide +kernel
theorem dX10_holding_87 : decode cX10_holding 87 = .ok (.aload_n 0, 1) := by decide +kernel
theorem dX10_holding_88 : decode cX10_holding 88 = .ok (.getfield 34, 3) := by decide +kernel
theorem dX10_holding_91 : decode cX10_holding 91 = .ok (.iload_n 3, 1) := by decide +kernel
theorem dX10_holding_92 : decode cX10_holding 92 = .ok (.iaload, 1) := by decide +kernel
theorem dX10_holding_93 : decode cX10_holding 93 = .ok (.if_icmp .lt 7, 3) := by decide +kernel
theorem dX10_holding_96 : decode cX10_holding 96 = .ok (.iconst 2, 1) := by decide +kernel
theorem dX10_holding_97 : decode cX10_holding 97 = .ok (.goto 4, 3) := by decide +kernel
theorem dX10_holding_100 : decode cX10_holding 100 = .ok (.iconst 0, 1) := by decide +kernel
theorem dX10_holding_101 : decode cX10_holding 101 = .ok (.putfield 257, 3) := by decide +kernel
theorem dX10_holding_104 : decode cX10_holding 104 = .ok (.aload_n 0, 1) := by decide +kernel
theorem dX10_holding_105 : decode cX10_holding 105 = .ok (.getfield 257, 3) := by decide +kernel
theorem dX10_holding_108 : decode cX10_holding 108 = .ok (.ifCond .ne 23, 3) := by decide +kernel
theorem dX10_holding_111 : decode cX10_holding 111 = .ok (.aload_n 0, 1) := by decide +kernel
theorem dX10_holding_112 : decode cX10_holding 112 = .ok (.getfield 37, 3) := by decide +kernel
theorem dX10_holding_115 : decode cX10_holding 115 = .ok (.bipush 6, 2) := by decide +kernel
theorem dX10_holding_117 : decode cX10_holding 117 = .ok (.iload_n 3, 1) := by decide +kernel
theorem dX10_holding_118 : decode cX10_holding 118 = .ok (.imul, 1) := by decide +kernel
theorem dX10_holding_119 : decode cX10_holding 119 = .ok (.iload 5, 2) := by decide +kernel
theorem dX10_holding_121 : decode cX10_holding 121 = .ok (.iadd, 1) := by decide +kernel
theorem dX10_holding_122 : decode cX10_holding 122 = .ok (.iaload, 1) := by decide +kernel
theorem dX10_holding_123 : decode cX10_holding 123 = .ok (.iconst 1, 1) := by decide +kernel
theorem dX10_holding_124 : decode cX10_holding 124 = .ok (.if_icmp .ne 7, 3) := by decide +kernel
theorem dX10_holding_127 : decode cX10_holding 127 = .ok (.iconst 1, 1) := by decide +kernel
theorem dX10_holding_128 : decode cX10_holding 128 = .ok (.goto 4, 3) := by decide +kernel
theorem dX10_holding_131 : decode cX10_holding 131 = .ok (.iconst 0, 1) := by decide +kernel
theorem dX10_holding_132 : decode cX10_holding 132 = .ok (.ireturn, 1) := by decide +kernel
theorem dX10_failing_0 : decode cX10_failing 0 = .ok (.iconst 0, 1) := by decide +kernel
theorem dX10_failing_1 : decode cX10_failing 1 = .ok (.istore_n 3, 1) := by decide +kernel
theorem dX10_failing_2 : decode cX10_failing 2 = .ok (.iload_n 3, 1) := by decide +kernel
theorem dX10_failing_3 : decode cX10_failing 3 = .ok (.aload_n 0, 1) := by decide +kernel
theorem dX10_failing_4 : decode cX10_failing 4 = .ok (.getfield 25, 3) := by decide +kernel
theorem dX10_failing_7 : decode cX10_failing 7 = .ok (.iload_n 1, 1) := by decide +kernel
theorem dX10_failing_8 : decode cX10_failing 8 = .ok (.iaload, 1) := by decide +kernel
theorem dX10_failing_9 : decode cX10_failing 9 = .ok (.if_icmp .ge 57, 3) := by decide +kernel
theorem dX10_failing_12 : decode cX10_failing 12 = .ok (.aload_n 0, 1) := by decide +kernel
theorem dX10_failing_13 : decode cX10_failing 13 = .ok (.getfield 28, 3) := by decide +kernel
theorem dX10_failing_16 : decode cX10_failing 16 = .ok (.bipush 40, 2) := by decide +kernel
theorem dX10_failing_18 : decode cX10_failing 18 = .ok (.iload_n 1, 1) := by decide +kernel
theorem dX10_failing_19 : decode cX10_failing 19 = .ok (.imul, 1) := by decide +kernel
theorem dX10_failing_20 : decode cX10_failing 20 = .ok (.iload_n 3, 1) := by decide +kernel
theorem dX10_failing_21 : decode cX10_failing 21 = .ok (.iadd, 1) := by decide +kernel
theorem dX10_failing_22 : decode cX10_failing 22 = .ok (.iaload, 1) := by decide +kernel
theorem dX10_failing_23 : decode cX10_failing 23 = .ok (.iload_n 2, 1) := by decide +kernel
theorem dX10_failing_24 : decode cX10_failing 24 = .ok (.if_icmp .eq 6, 3) := by decide +kernel
theorem dX10_failing_27 : decode cX10_failing 27 = .ok (.goto 33, 3) := by decide +kernel
theorem dX10_failing_30 : decode cX10_failing 30 = .ok (.aload_n 0, 1) := by decide +kernel
theorem dX10_failing_31 : decode cX10_failing 31 = .ok (.iload_n 1, 1) := by decide +kernel
theorem dX10_failing_32 : decode cX10_failing 32 = .ok (.iload_n 3, 1) := by decide +kernel
theorem dX10_failing_33 : decode cX10_failing 33 = .ok (.invokevirtual 263, 3) := by decide +kernel
theorem dX10_failing_36 : decode cX10_failing 36 = .ok (.istore 4, 2) := by decide +kernel
theorem dX10_failing_38 : decode cX10_failing 38 = .ok (.aload_n 0, 1) := by decide +kernel
theorem dX10_failing_39 : decode cX10_failing 39 = .ok (.getfield 257, 3) := by decide +kernel
theorem dX10_failing_42 : decode cX10_failing 42 = .ok (.ifCond .eq 11, 3) := by decide +kernel
theorem dX10_failing_45 : decode cX10_failing 45 = .ok (.aload_n 0, 1) := by decide +kernel
theorem dX10_failing_46 : decode cX10_failing 46 = .ok (.aload_n 0, 1) := by decide +kernel
theorem dX10_failing_47 : decode cX10_failing 47 = .ok (.getfield 257, 3) := by decide +kernel
theorem dX10_failing_50 : decode cX10_failing 50 = .ok (.invokevirtual 144, 3) := by decide +kernel
theorem dX10_failing_53 : decode cX10_failing 53 = .ok (.iload 4, 2) := by decide +kernel
theorem dX10_failing_55 : decode cX10_failing 55 = .ok (.ifCond .ne 5, 3) := by decide +kernel
theorem dX10_failing_58 : decode cX10_failing 58 = .ok (.iload_n 3, 1) := by decide +kernel
theorem dX10_failing_59 : decode cX10_failing 59 = .ok (.ireturn, 1) := by decide +kernel
theorem dX10_failing_60 : decode cX10_failing 60 = .ok (.iinc 3 1, 3) := by decide +kernel
theorem dX10_failing_63 : decode cX10_failing 63 = .ok (.goto (-61), 3) := by decide +kernel
theorem dX10_failing_66 : decode cX10_failing 66 = .ok (.iconst (-1), 1) := by decide +kernel
theorem dX10_failing_67 : decode cX10_failing 67 = .ok (.ireturn, 1) := by decide +kernel
theorem dX10_opens_0 : decode cX10_opens 0 = .ok (.iconst 0, 1) := by decide +kernel
theorem dX10_opens_1 : decode cX10_opens 1 = .ok (.istore_n 2, 1) := by decide +kernel
theorem dX10_opens_2 : decode cX10_opens 2 = .ok (.iconst 0, 1) := by decide +kernel
theorem dX10_opens_3 : decode cX10_opens 3 = .ok (.istore_n 3, 1) := by decide +kernel
theorem dX10_opens_4 : decode cX10_opens 4 = .ok (.iload_n 3, 1) := by decide +kernel
theorem dX10_opens_5 : decode cX10_opens 5 = .ok (.aload_n 0, 1) := by decide +kernel
theorem dX10_opens_6 : decode cX10_opens 6 = .ok (.getfield 25, 3) := by decide +kernel
theorem dX10_opens_9 : decode cX10_opens 9 = .ok (.iload_n 1, 1) := by decide +kernel
theorem dX10_opens_10 : decode cX10_opens 10 = .ok (.iaload, 1) := by decide +kernel
theorem dX10_opens_11 : decode cX10_opens 11 = .ok (.if_icmp .ge 34, 3) := by decide +kernel
theorem dX10_opens_14 : decode cX10_opens 14 = .ok (.iload_n 2, 1) := by decide +kernel
theorem dX10_opens_15 : decode cX10_opens 15 = .ok (.ifCond .ne 18, 3) := by decide +kernel
theorem dX10_opens_18 : decode cX10_opens 18 = .ok (.aload_n 0, 1) := by decide +kernel
theorem dX10_opens_19 : decode cX10_opens 19 = .ok (.getfield 28, 3) := by decide +kernel
theorem dX10_opens_22 : decode cX10_opens 22 = .ok (.bipush 40, 2) := by decide +kernel
theorem dX10_opens_24 : decode cX10_opens 24 = .ok (.iload_n 1, 1) := by decide +kernel
theorem dX10_opens_25 : decode cX10_opens 25 = .ok (.imul, 1) := by decide +kernel
theorem dX10_opens_26 : decode cX10_opens 26 = .ok (.iload_n 3, 1) := by decide +kernel
theorem dX10_opens_27 : decode cX10_opens 27 = .ok (.iadd, 1) := by decide +kernel
theorem dX10_opens_28 : decode cX10_opens 28 = .ok (.iaload, 1) := by decide +kernel
theorem dX10_opens_29 : decode cX10_opens 29 = .ok (.iconst (-1), 1) := by decide +kernel
theorem dX10_opens_30 : decode cX10_opens 30 = .ok (.if_icmp .ne 7, 3) := by decide +kernel
theorem dX10_opens_33 : decode cX10_opens 33 = .ok (.iconst 1, 1) := by decide +kernel
theorem dX10_opens_34 : decode cX10_opens 34 = .ok (.goto 4, 3) := by decide +kernel
theorem dX10_opens_37 : decode cX10_opens 37 = .ok (.iconst 0, 1) := by decide +kernel
theorem dX10_opens_38 : decode cX10_opens 38 = .ok (.istore_n 2, 1) := by decide +kernel
theorem dX10_opens_39 : decode cX10_opens 39 = .ok (.iinc 3 1, 3) := by decide +kernel
theorem dX10_opens_42 : decode cX10_opens 42 = .ok (.goto (-38), 3) := by decide +kernel
theorem dX10_opens_45 : decode cX10_opens 45 = .ok (.iload_n 2, 1) := by decide +kernel
theorem dX10_opens_46 : decode cX10_opens 46 = .ok (.ifCond .eq 17, 3) := by decide +kernel
theorem dX10_opens_49 : decode cX10_opens 49 = .ok (.aload_n 0, 1) := by decide +kernel
theorem dX10_opens_50 : decode cX10_opens 50 = .ok (.iload_n 1, 1) := by decide +kernel
theorem dX10_opens_51 : decode cX10_opens 51 = .ok (.iconst (-1), 1) := by decide +kernel
theorem dX10_opens_52 : decode cX10_opens 52 = .ok (.invokevirtual 266, 3) := by decide +kernel
theorem dX10_opens_55 : decode cX10_opens 55 = .ok (.iconst (-1), 1) := by decide +kernel
theorem dX10_opens_56 : decode cX10_opens 56 = .ok (.if_icmp .ne 7, 3) := by decide +kernel
theorem dX10_opens_59 : decode cX10_opens 59 = .ok (.iconst 1, 1) := by decide +kernel
theorem dX10_opens_60 : decode cX10_opens 60 = .ok (.goto 4, 3) := by decide +kernel
theorem dX10_opens_63 : decode cX10_opens 63 = .ok (.iconst 0, 1) := by decide +kernel
theorem dX10_opens_64 : decode cX10_opens 64 = .ok (.ireturn, 1) := by decide +kernel
theorem dX10_told_0 : decode cX10_told 0 = .ok (.iload_n 1, 1) := by decide +kernel
theorem dX10_told_1 : decode cX10_told 1 = .ok (.invokestatic 167, 3) := by decide +kernel
theorem dX10_told_4 : decode cX10_told 4 = .ok (.ifCond .eq 15, 3) := by decide +kernel
theorem dX10_told_7 : decode cX10_told 7 = .ok (.iload_n 3, 1) := by decide +kernel
theorem dX10_told_8 : decode cX10_told 8 = .ok (.i2l, 1) := by decide +kernel
theorem dX10_told_9 : decode cX10_told 9 = .ok (.lconst 0, 1) := by decide +kernel
theorem dX10_told_10 : decode cX10_told 10 = .ok (.ldc2_w 171, 3) := by decide +kernel
theorem dX10_told_13 : decode cX10_told 13 = .ok (.invokestatic 152, 3) := by decide +kernel
theorem dX10_told_16 : decode cX10_told 16 = .ok (.ifCond .ne 10, 3) := by decide +kernel
theorem dX10_told_19 : decode cX10_told 19 = .ok (.aload_n 0, 1) := by decide +kernel
theorem dX10_told_20 : decode cX10_told 20 = .ok (.bipush (-2), 2) := by decide +kernel
theorem dX10_told_22 : decode cX10_told 22 = .ok (.invokevirtual 173, 3) := by decide +kernel
theorem dX10_told_25 : decode cX10_told 25 = .ok (.ireturn, 1) := by decide +kernel
theorem dX10_told_26 : decode cX10_told 26 = .ok (.iload_n 2, 1) := by decide +kernel
theorem dX10_told_27 : decode cX10_told 27 = .ok (.invokestatic 186, 3) := by decide +kernel
theorem dX10_told_30 : decode cX10_told 30 = .ok (.ifCond .ne 10, 3) := by decide +kernel
theorem dX10_told_33 : decode cX10_told 33 = .ok (.aload_n 0, 1) := by decide +kernel
theorem dX10_told_34 : decode cX10_told 34 = .ok (.bipush (-3), 2) := by decide +kernel
theorem dX10_told_36 : decode cX10_told 36 = .ok (.invokevirtual 173, 3) := by decide +kernel
theorem dX10_told_39 : decode cX10_told 39 = .ok (.ireturn, 1) := by decide +kernel
theorem dX10_told_40 : decode cX10_told 40 = .ok (.aload_n 0, 1) := by decide +kernel
theorem dX10_told_41 : decode cX10_told 41 = .ok (.iload_n 1, 1) := by decide +kernel
theorem dX10_told_42 : decode cX10_told 42 = .ok (.iload_n 2, 1) := by decide +kernel
theorem dX10_told_43 : decode cX10_told 43 = .ok (.invokevirtual 204, 3) := by decide +kernel
theorem dX10_told_46 : decode cX10_told 46 = .ok (.istore 4, 2) := by decide +kernel
theorem dX10_told_48 : decode cX10_told 48 = .ok (.iload 4, 2) := by decide +kernel
theorem dX10_told_50 : decode cX10_told 50 = .ok (.ifCond .eq 10, 3) := by decide +kernel
theorem dX10_told_53 : decode cX10_told 53 = .ok (.aload_n 0, 1) := by decide +kernel
theorem dX10_told_54 : decode cX10_told 54 = .ok (.iload 4, 2) := by decide +kernel
theorem dX10_told_56 : decode cX10_told 56 = .ok (.invokevirtual 177, 3) := by decide +kernel
theorem dX10_told_59 : decode cX10_told 59 = .ok (.ireturn, 1) := by decide +kernel
theorem dX10_told_60 : decode cX10_told 60 = .ok (.bipush 16, 2) := by decide +kernel
theorem dX10_told_62 : decode cX10_told 62 = .ok (.iload_n 1, 1) := by decide +kernel
theorem dX10_told_63 : decode cX10_told 63 = .ok (.imul, 1) := by decide +kernel
theorem dX10_told_64 : decode cX10_told 64 = .ok (.iload_n 2, 1) := by decide +kernel
theorem dX10_told_65 : decode cX10_told 65 = .ok (.iadd, 1) := by decide +kernel
theorem dX10_told_66 : decode cX10_told 66 = .ok (.istore 5, 2) := by decide +kernel
theorem dX10_told_68 : decode cX10_told 68 = .ok (.aload_n 0, 1) := by decide +kernel
theorem dX10_told_69 : decode cX10_told 69 = .ok (.iload_n 3, 1) := by decide +kernel
theorem dX10_told_70 : decode cX10_told 70 = .ok (.ifCond .ne 13, 3) := by decide +kernel
theorem dX10_told_73 : decode cX10_told 73 = .ok (.aload_n 0, 1) := by decide +kernel
theorem dX10_told_74 : decode cX10_told 74 = .ok (.getfield 13, 3) := by decide +kernel
theorem dX10_told_77 : decode cX10_told 77 = .ok (.iload 5, 2) := by decide +kernel
theorem dX10_told_79 : decode cX10_told 79 = .ok (.iaload, 1) := by decide +kernel
theorem dX10_told_80 : decode cX10_told 80 = .ok (.goto 40, 3) := by decide +kernel
theorem dX10_told_83 : decode cX10_told 83 = .ok (.iload_n 3, 1) := by decide +kernel
theorem dX10_told_84 : decode cX10_told 84 = .ok (.iconst 1, 1) := by decide +kernel
theorem dX10_told_85 : decode cX10_told 85 = .ok (.if_icmp .ne 13, 3) := by decide +kernel
theorem dX10_told_88 : decode cX10_told 88 = .ok (.aload_n 0, 1) := by decide +kernel
theorem dX10_told_89 : decode cX10_told 89 = .ok (.getfield 16, 3) := by decide +kernel
theorem dX10_told_92 : decode cX10_told 92 = .ok (.iload 5, 2) := by decide +kernel
theorem dX10_told_94 : decode cX10_told 94 = .ok (.iaload, 1) := by decide +kernel
theorem dX10_told_95 : decode cX10_told 95 = .ok (.goto 25, 3) := by decide +kernel
theorem dX10_told_98 : decode cX10_told 98 = .ok (.iload_n 3, 1) := by decide +kernel
theorem dX10_told_99 : decode cX10_told 99 = .ok (.iconst 2, 1) := by decide +kernel
theorem dX10_told_100 : decode cX10_told 100 = .ok (.if_icmp .ne 13, 3) := by decide +kernel
theorem dX10_told_103 : decode cX10_told 103 = .ok (.aload_n 0, 1) := by decide +kernel
theorem dX10_told_104 : decode cX10_told 104 = .ok (.getfield 19, 3) := by decide +kernel
theorem dX10_told_107 : decode cX10_told 107 = .ok (.iload 5, 2) := by decide +kernel
theorem dX10_told_109 : decode cX10_told 109 = .ok (.iaload, 1) := by decide +kernel
theorem dX10_told_110 : decode cX10_told 110 = .ok (.goto 10, 3) := by decide +kernel
theorem dX10_told_113 : decode cX10_told 113 = .ok (.aload_n 0, 1) := by decide +kernel
theorem dX10_told_114 : decode cX10_told 114 = .ok (.getfield 22, 3) := by decide +kernel
theorem dX10_told_117 : decode cX10_told 117 = .ok (.iload 5, 2) := by decide +kernel
theorem dX10_told_119 : decode cX10_told 119 = .ok (.iaload, 1) := by decide +kernel
theorem dX10_told_120 : decode cX10_told 120 = .ok (.invokevirtual 183, 3) := by decide +kernel
theorem dX10_told_123 : decode cX10_told 123 = .ok (.ireturn, 1) := by decide +kernel
theorem dX10_tell_0 : decode cX10_tell 0 = .ok (.aload_n 0, 1) := by decide +kernel
theorem dX10_tell_1 : decode cX10_tell 1 = .ok (.iconst 0, 1) := by decide +kernel
theorem dX10_tell_2 : decode cX10_tell 2 = .ok (.putfield 147, 3) := by decide +kernel
theorem dX10_tell_5 : decode cX10_tell 5 = .ok (.iload_n 1, 1) := by decide +kernel
theorem dX10_tell_6 : decode cX10_tell 6 = .ok (.invokestatic 167, 3) := by decide +kernel
theorem dX10_tell_9 : decode cX10_tell 9 = .ok (.ifCond .eq 10, 3) := by decide +kernel
theorem dX10_tell_12 : decode cX10_tell 12 = .ok (.iload_n 2, 1) := by decide +kernel
theorem dX10_tell_13 : decode cX10_tell 13 = .ok (.invokestatic 186, 3) := by decide +kernel
theorem dX10_tell_16 : decode cX10_tell 16 = .ok (.ifCond .ne 22, 3) := by decide +kernel
theorem dX10_tell_19 : decode cX10_tell 19 = .ok (.aload_n 0, 1) := by decide +kernel
theorem dX10_tell_20 : decode cX10_tell 20 = .ok (.iload_n 1, 1) := by decide +kernel
theorem dX10_tell_21 : decode cX10_tell 21 = .ok (.invokestatic 167, 3) := by decide +kernel
theorem dX10_tell_24 : decode cX10_tell 24 = .ok (.ifCond .eq 8, 3) := by decide +kernel
theorem dX10_tell_27 : decode cX10_tell 27 = .ok (.bipush (-3), 2) := by decide +kernel
theorem dX10_tell_29 : decode cX10_tell 29 = .ok (.goto 5, 3) := by decide +kernel
theorem dX10_tell_32 : decode cX10_tell 32 = .ok (.bipush (-2), 2) := by decide +kernel
theorem dX10_tell_34 : decode cX10_tell 34 = .ok (.invokevirtual 173, 3) := by decide +kernel
theorem dX10_tell_37 : decode cX10_tell 37 = .ok (.ireturn, 1) := by decide +kernel
theorem dX10_tell_38 : decode cX10_tell 38 = .ok (.aload_n 0, 1) := by decide +kernel
theorem dX10_tell_39 : decode cX10_tell 39 = .ok (.iload_n 1, 1) := by decide +kernel
theorem dX10_tell_40 : decode cX10_tell 40 = .ok (.iload_n 2, 1) := by decide +kernel
theorem dX10_tell_41 : decode cX10_tell 41 = .ok (.invokevirtual 204, 3) := by decide +kernel
theorem dX10_tell_44 : decode cX10_tell 44 = .ok (.istore_n 3, 1) := by decide +kernel
theorem dX10_tell_45 : decode cX10_tell 45 = .ok (.iload_n 3, 1) := by decide +kernel
theorem dX10_tell_46 : decode cX10_tell 46 = .ok (.ifCond .ne 22, 3) := by decide +kernel
theorem dX10_tell_49 : decode cX10_tell 49 = .ok (.aload_n 0, 1) := by decide +kernel
theorem dX10_tell_50 : decode cX10_tell 50 = .ok (.getfield 13, 3) := by decide +kernel
theorem dX10_tell_53 : decode cX10_tell 53 = .ok (.bipush 16, 2) := by decide +kernel
theorem dX10_tell_55 : decode cX10_tell 55 = .ok (.iload_n 1, 1) := by decide +kernel
theorem dX10_tell_56 : decode cX10_tell 56 = .ok (.imul, 1) := by decide +kernel
theorem dX10_tell_57 : decode cX10_tell 57 = .ok (.iload_n 2, 1) := by decide +kernel
theorem dX10_tell_58 : decode cX10_tell 58 = .ok (.iadd, 1) := by decide +kernel
theorem dX10_tell_59 : decode cX10_tell 59 = .ok (.iaload, 1) := by decide +kernel
theorem dX10_tell_60 : decode cX10_tell 60 = .ok (.iconst 5, 1) := by decide +kernel
theorem dX10_tell_61 : decode cX10_tell 61 = .ok (.if_icmp .ne 7, 3) := by decide +kernel
theorem dX10_tell_64 : decode cX10_tell 64 = .ok (.iconst 3, 1) := by decide +kernel
theorem dX10_tell_65 : decode cX10_tell 65 = .ok (.goto 4, 3) := by decide +kernel
theorem dX10_tell_68 : decode cX10_tell 68 = .ok (.iload_n 3, 1) := by decide +kernel
theorem dX10_tell_69 : decode cX10_tell 69 = .ok (.istore_n 3, 1) := by decide +kernel
theorem dX10_tell_70 : decode cX10_tell 70 = .ok (.iload_n 3, 1) := by decide +kernel
theorem dX10_tell_71 : decode cX10_tell 71 = .ok (.ifCond .eq 11, 3) := by decide +kernel
theorem dX10_tell_74 : decode cX10_tell 74 = .ok (.aload_n 0, 1) := by decide +kernel
theorem dX10_tell_75 : decode cX10_tell 75 = .ok (.iload_n 3, 1) := by decide +kernel
theorem dX10_tell_76 : decode cX10_tell 76 = .ok (.invokevirtual 177, 3) := by decide +kernel
theorem dX10_tell_79 : decode cX10_tell 79 = .ok (.goto 17, 3) := by decide +kernel
theorem dX10_tell_82 : decode cX10_tell 82 = .ok (.aload_n 0, 1) := by decide +kernel
theorem dX10_tell_83 : decode cX10_tell 83 = .ok (.aload_n 0, 1) := by decide +kernel
theorem dX10_tell_84 : decode cX10_tell 84 = .ok (.bipush 16, 2) := by decide +kernel
theorem dX10_tell_86 : decode cX10_tell 86 = .ok (.iload_n 1, 1) := by decide +kernel
theorem dX10_tell_87 : decode cX10_tell 87 = .ok (.imul, 1) := by decide +kernel
theorem dX10_tell_88 : decode cX10_tell 88 = .ok (.iload_n 2, 1) := by decide +kernel
theorem dX10_tell_89 : decode cX10_tell 89 = .ok (.iadd, 1) := by decide +kernel
theorem dX10_tell_90 : decode cX10_tell 90 = .ok (.invokevirtual 260, 3) := by decide +kernel
theorem dX10_tell_93 : decode cX10_tell 93 = .ok (.invokevirtual 183, 3) := by decide +kernel
theorem dX10_tell_96 : decode cX10_tell 96 = .ok (.ireturn, 1) := by decide +kernel
theorem dX10_conditionTold_0 : decode cX10_conditionTold 0 = .ok (.aload_n 0, 1) := by decide +kernel
theorem dX10_conditionTold_1 : decode cX10_conditionTold 1 = .ok (.iload_n 1, 1) := by decide +kernel
theorem dX10_conditionTold_2 : decode cX10_conditionTold 2 = .ok (.iload_n 2, 1) := by decide +kernel
theorem dX10_conditionTold_3 : decode cX10_conditionTold 3 = .ok (.invokevirtual 213, 3) := by decide +kernel
theorem dX10_conditionTold_6 : decode cX10_conditionTold 6 = .ok (.ifCond .eq 15, 3) := by decide +kernel
theorem dX10_conditionTold_9 : decode cX10_conditionTold 9 = .ok (.iload_n 3, 1) := by decide +kernel
theorem dX10_conditionTold_10 : decode cX10_conditionTold 10 = .ok (.i2l, 1) := by decide +kernel
theorem dX10_conditionTold_11 : decode cX10_conditionTold 11 = .ok (.lconst 0, 1) := by decide +kernel
theorem dX10_conditionTold_12 : decode cX10_conditionTold 12 = .ok (.ldc2_w 269, 3) := by decide +kernel
theorem dX10_conditionTold_15 : decode cX10_conditionTold 15 = .ok (.invokestatic 152, 3) := by decide +kernel
theorem dX10_conditionTold_18 : decode cX10_conditionTold 18 = .ok (.ifCond .ne 10, 3) := by decide +kernel
theorem dX10_conditionTold_21 : decode cX10_conditionTold 21 = .ok (.aload_n 0, 1) := by decide +kernel
theorem dX10_conditionTold_22 : decode cX10_conditionTold 22 = .ok (.bipush (-2), 2) := by decide +kernel
theorem dX10_conditionTold_24 : decode cX10_conditionTold 24 = .ok (.invokevirtual 173, 3) := by decide +kernel
theorem dX10_conditionTold_27 : decode cX10_conditionTold 27 = .ok (.ireturn, 1) := by decide +kernel
theorem dX10_conditionTold_28 : decode cX10_conditionTold 28 = .ok (.bipush 40, 2) := by decide +kernel
theorem dX10_conditionTold_30 : decode cX10_conditionTold 30 = .ok (.iload_n 1, 1) := by decide +kernel
theorem dX10_conditionTold_31 : decode cX10_conditionTold 31 = .ok (.imul, 1) := by decide +kernel
theorem dX10_conditionTold_32 : decode cX10_conditionTold 32 = .ok (.iload_n 2, 1) := by decide +kernel
theorem dX10_conditionTold_33 : decode cX10_conditionTold 33 = .ok (.iadd, 1) := by decide +kernel
theorem dX10_conditionTold_34 : decode cX10_conditionTold 34 = .ok (.istore 4, 2) := by decide +kernel
theorem dX10_conditionTold_36 : decode cX10_conditionTold 36 = .ok (.iload_n 3, 1) := by decide +kernel
theorem dX10_conditionTold_37 : decode cX10_conditionTold 37 = .ok (.iconst 3, 1) := by decide +kernel
theorem dX10_conditionTold_38 : decode cX10_conditionTold 38 = .ok (.if_icmp .ge 44, 3) := by decide +kernel
theorem dX10_conditionTold_41 : decode cX10_conditionTold 41 = .ok (.aload_n 0, 1) := by decide +kernel
theorem dX10_conditionTold_42 : decode cX10_conditionTold 42 = .ok (.iload_n 3, 1) := by decide +kernel
theorem dX10_conditionTold_43 : decode cX10_conditionTold 43 = .ok (.ifCond .ne 13, 3) := by decide +kernel
theorem dX10_conditionTold_46 : decode cX10_conditionTold 46 = .ok (.aload_n 0, 1) := by decide +kernel
theorem dX10_conditionTold_47 : decode cX10_conditionTold 47 = .ok (.getfield 28, 3) := by decide +kernel
theorem dX10_conditionTold_50 : decode cX10_conditionTold 50 = .ok (.iload 4, 2) := by decide +kernel
theorem dX10_conditionTold_52 : decode cX10_conditionTold 52 = .ok (.iaload, 1) := by decide +kernel
theorem dX10_conditionTold_53 : decode cX10_conditionTold 53 = .ok (.goto 25, 3) := by decide +kernel
theorem dX10_conditionTold_56 : decode cX10_conditionTold 56 = .ok (.iload_n 3, 1) := by decide +kernel
theorem dX10_conditionTold_57 : decode cX10_conditionTold 57 = .ok (.iconst 1, 1) := by decide +kernel
theorem dX10_conditionTold_58 : decode cX10_conditionTold 58 = .ok (.if_icmp .ne 13, 3) := by decide +kernel
theorem dX10_conditionTold_61 : decode cX10_conditionTold 61 = .ok (.aload_n 0, 1) := by decide +kernel
theorem dX10_conditionTold_62 : decode cX10_conditionTold 62 = .ok (.getfield 31, 3) := by decide +kernel
theorem dX10_conditionTold_65 : decode cX10_conditionTold 65 = .ok (.iload 4, 2) := by decide +kernel
theorem dX10_conditionTold_67 : decode cX10_conditionTold 67 = .ok (.iaload, 1) := by decide +kernel
theorem dX10_conditionTold_68 : decode cX10_conditionTold 68 = .ok (.goto 10, 3) := by decide +kernel
theorem dX10_conditionTold_71 : decode cX10_conditionTold 71 = .ok (.aload_n 0, 1) := by decide +kernel
theorem dX10_conditionTold_72 : decode cX10_conditionTold 72 = .ok (.getfield 34, 3) := by decide +kernel
theorem dX10_conditionTold_75 : decode cX10_conditionTold 75 = .ok (.iload 4, 2) := by decide +kernel
theorem dX10_conditionTold_77 : decode cX10_conditionTold 77 = .ok (.iaload, 1) := by decide +kernel
theorem dX10_conditionTold_78 : decode cX10_conditionTold 78 = .ok (.invokevirtual 183, 3) := by decide +kernel
theorem dX10_conditionTold_81 : decode cX10_conditionTold 81 = .ok (.ireturn, 1) := by decide +kernel
theorem dX10_conditionTold_82 : decode cX10_conditionTold 82 = .ok (.aload_n 0, 1) := by decide +kernel
theorem dX10_conditionTold_83 : decode cX10_conditionTold 83 = .ok (.iload_n 3, 1) := by decide +kernel
theorem dX10_conditionTold_84 : decode cX10_conditionTold 84 = .ok (.iconst 3, 1) := by decide +kernel
theorem dX10_conditionTold_85 : decode cX10_conditionTold 85 = .ok (.isub, 1) := by decide +kernel
theorem dX10_conditionTold_86 : decode cX10_conditionTold 86 = .ok (.aload_n 0, 1) := by decide +kernel
theorem dX10_conditionTold_87 : decode cX10_conditionTold 87 = .ok (.getfield 34, 3) := by decide +kernel
theorem dX10_conditionTold_90 : decode cX10_conditionTold 90 = .ok (.iload 4, 2) := by decide +kernel
theorem dX10_conditionTold_92 : decode cX10_conditionTold 92 = .ok (.iaload, 1) := by decide +kernel
theorem dX10_conditionTold_93 : decode cX10_conditionTold 93 = .ok (.if_icmp .ge 20, 3) := by decide +kernel
theorem dX10_conditionTold_96 : decode cX10_conditionTold 96 = .ok (.aload_n 0, 1) := by decide +kernel
theorem dX10_conditionTold_97 : decode cX10_conditionTold 97 = .ok (.getfield 37, 3) := by decide +kernel
theorem dX10_conditionTold_100 : decode cX10_conditionTold 100 = .ok (.bipush 6, 2) := by decide +kernel
theorem dX10_conditionTold_102 : decode cX10_conditionTold 102 = .ok (.iload 4, 2) := by decide +kernel
theorem dX10_conditionTold_104 : decode cX10_conditionTold 104 = .ok (.imul, 1) := by decide +kernel
theorem dX10_conditionTold_105 : decode cX10_conditionTold 105 = .ok (.iload_n 3, 1) := by decide +kernel
theorem dX10_conditionTold_106 : decode cX10_conditionTold 106 = .ok (.iadd, 1) := by decide +kernel
theorem dX10_conditionTold_107 : decode cX10_conditionTold 107 = .ok (.iconst 3, 1) := by decide +kernel
theorem dX10_conditionTold_108 : decode cX10_conditionTold 108 = .ok (.isub, 1) := by decide +kernel
theorem dX10_conditionTold_109 : decode cX10_conditionTold 109 = .ok (.iaload, 1) := by decide +kernel
theorem dX10_conditionTold_110 : decode cX10_conditionTold 110 = .ok (.goto 4, 3) := by decide +kernel
theorem dX10_conditionTold_113 : decode cX10_conditionTold 113 = .ok (.iconst (-1), 1) := by decide +kernel
theorem dX10_conditionTold_114 : decode cX10_conditionTold 114 = .ok (.invokevirtual 183, 3) := by decide +kernel
theorem dX10_conditionTold_117 : decode cX10_conditionTold 117 = .ok (.ireturn, 1) := by decide +kernel
theorem dX10_holds_0 : decode cX10_holds 0 = .ok (.aload_n 0, 1) := by decide +kernel
theorem dX10_holds_1 : decode cX10_holds 1 = .ok (.iload_n 1, 1) := by decide +kernel
theorem dX10_holds_2 : decode cX10_holds 2 = .ok (.iload_n 2, 1) := by decide +kernel
theorem dX10_holds_3 : decode cX10_holds 3 = .ok (.invokevirtual 213, 3) := by decide +kernel
theorem dX10_holds_6 : decode cX10_holds 6 = .ok (.ifCond .ne 10, 3) := by decide +kernel
theorem dX10_holds_9 : decode cX10_holds 9 = .ok (.aload_n 0, 1) := by decide +kernel
theorem dX10_holds_10 : decode cX10_holds 10 = .ok (.bipush (-2), 2) := by decide +kernel
theorem dX10_holds_12 : decode cX10_holds 12 = .ok (.invokevirtual 173, 3) := by decide +kernel
theorem dX10_holds_15 : decode cX10_holds 15 = .ok (.ireturn, 1) := by decide +kernel
theorem dX10_holds_16 : decode cX10_holds 16 = .ok (.aload_n 0, 1) := by decide +kernel
theorem dX10_holds_17 : decode cX10_holds 17 = .ok (.iconst 1, 1) := by decide +kernel
theorem dX10_holds_18 : decode cX10_holds 18 = .ok (.putfield 134, 3) := by decide +kernel
theorem dX10_holds_21 : decode cX10_holds 21 = .ok (.aload_n 0, 1) := by decide +kernel
theorem dX10_holds_22 : decode cX10_holds 22 = .ok (.iload_n 1, 1) := by decide +kernel
theorem dX10_holds_23 : decode cX10_holds 23 = .ok (.iload_n 2, 1) := by decide +kernel
theorem dX10_holds_24 : decode cX10_holds 24 = .ok (.invokevirtual 263, 3) := by decide +kernel
theorem dX10_holds_27 : decode cX10_holds 27 = .ok (.istore_n 3, 1) := by decide +kernel
theorem dX10_holds_28 : decode cX10_holds 28 = .ok (.aload_n 0, 1) := by decide +kernel
theorem dX10_holds_29 : decode cX10_holds 29 = .ok (.iconst 0, 1) := by decide +kernel
theorem dX10_holds_30 : decode cX10_holds 30 = .ok (.putfield 134, 3) := by decide +kernel
theorem dX10_holds_33 : decode cX10_holds 33 = .ok (.aload_n 0, 1) := by decide +kernel
theorem dX10_holds_34 : decode cX10_holds 34 = .ok (.getfield 257, 3) := by decide +kernel
theorem dX10_holds_37 : decode cX10_holds 37 = .ok (.ifCond .eq 14, 3) := by decide +kernel
theorem dX10_holds_40 : decode cX10_holds 40 = .ok (.aload_n 0, 1) := by decide +kernel
theorem dX10_holds_41 : decode cX10_holds 41 = .ok (.aload_n 0, 1) := by decide +kernel
theorem dX10_holds_42 : decode cX10_holds 42 = .ok (.getfield 257, 3) := by decide +kernel
theorem dX10_holds_45 : decode cX10_holds 45 = .ok (.invokevirtual 177, 3) := by decide +kernel
theorem dX10_holds_48 : decode cX10_holds 48 = .ok (.goto 16, 3) := by decide +kernel
theorem dX10_holds_51 : decode cX10_holds 51 = .ok (.aload_n 0, 1) := by decide +kernel
theorem dX10_holds_52 : decode cX10_holds 52 = .ok (.iload_n 3, 1) := by decide +kernel
theorem dX10_holds_53 : decode cX10_holds 53 = .ok (.ifCond .eq 7, 3) := by decide +kernel
theorem dX10_holds_56 : decode cX10_holds 56 = .ok (.iconst 1, 1) := by decide +kernel
theorem dX10_holds_57 : decode cX10_holds 57 = .ok (.goto 4, 3) := by decide +kernel
theorem dX10_holds_60 : decode cX10_holds 60 = .ok (.iconst 0, 1) := by decide +kernel
theorem dX10_holds_61 : decode cX10_holds 61 = .ok (.invokevirtual 183, 3) := by decide +kernel
theorem dX10_holds_64 : decode cX10_holds 64 = .ok (.ireturn, 1) := by decide +kernel
theorem dX10_bars_0 : decode cX10_bars 0 = .ok (.iload_n 2, 1) := by decide +kernel
theorem dX10_bars_1 : decode cX10_bars 1 = .ok (.bipush 32, 2) := by decide +kernel
theorem dX10_bars_3 : decode cX10_bars 3 = .ok (.if_icmp .lt 5, 3) := by decide +kernel
theorem dX10_bars_6 : decode cX10_bars 6 = .ok (.iconst (-1), 1) := by decide +kernel
theorem dX10_bars_7 : decode cX10_bars 7 = .ok (.ireturn, 1) := by decide +kernel
theorem dX10_bars_8 : decode cX10_bars 8 = .ok (.iload_n 2, 1) := by decide +kernel
theorem dX10_bars_9 : decode cX10_bars 9 = .ok (.iconst 2, 1) := by decide +kernel
theorem dX10_bars_10 : decode cX10_bars 10 = .ok (.idiv, 1) := by decide +kernel
theorem dX10_bars_11 : decode cX10_bars 11 = .ok (.istore_n 3, 1) := by decide +kernel
theorem dX10_bars_12 : decode cX10_bars 12 = .ok (.bipush 16, 2) := by decide +kernel
theorem dX10_bars_14 : decode cX10_bars 14 = .ok (.iload_n 1, 1) := by decide +kernel
theorem dX10_bars_15 : decode cX10_bars 15 = .ok (.imul, 1) := by decide +kernel
theorem dX10_bars_16 : decode cX10_bars 16 = .ok (.iload_n 3, 1) := by decide +kernel
theorem dX10_bars_17 : decode cX10_bars 17 = .ok (.iadd, 1) := by decide +kernel
theorem dX10_bars_18 : decode cX10_bars 18 = .ok (.istore 4, 2) := by decide +kernel
theorem dX10_bars_20 : decode cX10_bars 20 = .ok (.aload_n 0, 1) := by decide +kernel
theorem dX10_bars_21 : decode cX10_bars 21 = .ok (.iload_n 1, 1) := by decide +kernel
theorem dX10_bars_22 : decode cX10_bars 22 = .ok (.iload_n 3, 1) := by decide +kernel
theorem dX10_bars_23 : decode cX10_bars 23 = .ok (.invokevirtual 204, 3) := by decide +kernel
theorem dX10_bars_26 : decode cX10_bars 26 = .ok (.istore 5, 2) := by decide +kernel
theorem dX10_bars_28 : decode cX10_bars 28 = .ok (.iload 5, 2) := by decide +kernel
theorem dX10_bars_30 : decode cX10_bars 30 = .ok (.ifCond .ne 39, 3) := by decide +kernel
theorem dX10_bars_33 : decode cX10_bars 33 = .ok (.aload_n 0, 1) := by decide +kernel
theorem dX10_bars_34 : decode cX10_bars 34 = .ok (.getfield 13, 3) := by decide +kernel
theorem dX10_bars_37 : decode cX10_bars 37 = .ok (.iload 4, 2) := by decide +kernel
theorem dX10_bars_39 : decode cX10_bars 39 = .ok (.iaload, 1) := by decide +kernel
theorem dX10_bars_40 : decode cX10_bars 40 = .ok (.ifCond .eq 29, 3) := by decide +kernel
theorem dX10_bars_43 : decode cX10_bars 43 = .ok (.aload_n 0, 1) := by decide +kernel
theorem dX10_bars_44 : decode cX10_bars 44 = .ok (.getfield 13, 3) := by decide +kernel
theorem dX10_bars_47 : decode cX10_bars 47 = .ok (.iload 4, 2) := by decide +kernel
theorem dX10_bars_49 : decode cX10_bars 49 = .ok (.iaload, 1) := by decide +kernel
theorem dX10_bars_50 : decode cX10_bars 50 = .ok (.iconst 1, 1) := by decide +kernel
theorem dX10_bars_51 : decode cX10_bars 51 = .ok (.if_icmp .eq 18, 3) := by decide +kernel
theorem dX10_bars_54 : decode cX10_bars 54 = .ok (.aload_n 0, 1) := by decide +kernel
theorem dX10_bars_55 : decode cX10_bars 55 = .ok (.getfield 13, 3) := by decide +kernel
theorem dX10_bars_58 : decode cX10_bars 58 = .ok (.iload 4, 2) := by decide +kernel
theorem dX10_bars_60 : decode cX10_bars 60 = .ok (.iaload, 1) := by decide +kernel
theorem dX10_bars_61 : decode cX10_bars 61 = .ok (.iconst 4, 1) := by decide +kernel
theorem dX10_bars_62 : decode cX10_bars 62 = .ok (.if_icmp .eq 7, 3) := by decide +kernel
theorem dX10_bars_65 : decode cX10_bars 65 = .ok (.iconst 3, 1) := by decide +kernel
theorem dX10_bars_66 : decode cX10_bars 66 = .ok (.goto 5, 3) := by decide +kernel
theorem dX10_bars_69 : decode cX10_bars 69 = .ok (.iload 5, 2) := by decide +kernel
theorem dX10_bars_71 : decode cX10_bars 71 = .ok (.istore 5, 2) := by decide +kernel
theorem dX10_bars_73 : decode cX10_bars 73 = .ok (.iload 5, 2) := by decide +kernel
theorem dX10_bars_75 : decode cX10_bars 75 = .ok (.ifCond .eq 9, 3) := by decide +kernel
theorem dX10_bars_78 : decode cX10_bars 78 = .ok (.bipush (-10), 2) := by decide +kernel
theorem dX10_bars_80 : decode cX10_bars 80 = .ok (.iload 5, 2) := by decide +kernel
theorem dX10_bars_82 : decode cX10_bars 82 = .ok (.isub, 1) := by decide +kernel
theorem dX10_bars_83 : decode cX10_bars 83 = .ok (.ireturn, 1) := by decide +kernel
theorem dX10_bars_84 : decode cX10_bars 84 = .ok (.aload_n 0, 1) := by decide +kernel
theorem dX10_bars_85 : decode cX10_bars 85 = .ok (.aload_n 0, 1) := by decide +kernel
theorem dX10_bars_86 : decode cX10_bars 86 = .ok (.getfield 13, 3) := by decide +kernel
theorem dX10_bars_89 : decode cX10_bars 89 = .ok (.iload 4, 2) := by decide +kernel
theorem dX10_bars_91 : decode cX10_bars 91 = .ok (.iaload, 1) := by decide +kernel
theorem dX10_bars_92 : decode cX10_bars 92 = .ok (.ifCond .ne 8, 3) := by decide +kernel
theorem dX10_bars_95 : decode cX10_bars 95 = .ok (.bipush 11, 2) := by decide +kernel
theorem dX10_bars_97 : decode cX10_bars 97 = .ok (.goto 21, 3) := by decide +kernel
theorem dX10_bars_100 : decode cX10_bars 100 = .ok (.aload_n 0, 1) := by decide +kernel
theorem dX10_bars_101 : decode cX10_bars 101 = .ok (.getfield 13, 3) := by decide +kernel
theorem dX10_bars_104 : decode cX10_bars 104 = .ok (.iload 4, 2) := by decide +kernel
theorem dX10_bars_106 : decode cX10_bars 106 = .ok (.iaload, 1) := by decide +kernel
theorem dX10_bars_107 : decode cX10_bars 107 = .ok (.iconst 1, 1) := by decide +kernel
theorem dX10_bars_108 : decode cX10_bars 108 = .ok (.if_icmp .ne 8, 3) := by decide +kernel
theorem dX10_bars_111 : decode cX10_bars 111 = .ok (.bipush 12, 2) := by decide +kernel
theorem dX10_bars_113 : decode cX10_bars 113 = .ok (.goto 5, 3) := by decide +kernel
theorem dX10_bars_116 : decode cX10_bars 116 = .ok (.bipush 14, 2) := by decide +kernel
theorem dX10_bars_118 : decode cX10_bars 118 = .ok (.invokevirtual 254, 3) := by decide +kernel
theorem dX10_bars_121 : decode cX10_bars 121 = .ok (.aload_n 0, 1) := by decide +kernel
theorem dX10_bars_122 : decode cX10_bars 122 = .ok (.getfield 19, 3) := by decide +kernel
theorem dX10_bars_125 : decode cX10_bars 125 = .ok (.iload 4, 2) := by decide +kernel
theorem dX10_bars_127 : decode cX10_bars 127 = .ok (.iaload, 1) := by decide +kernel
theorem dX10_bars_128 : decode cX10_bars 128 = .ok (.iload_n 2, 1) := by decide +kernel
theorem dX10_bars_129 : decode cX10_bars 129 = .ok (.iconst 2, 1) := by decide +kernel
theorem dX10_bars_130 : decode cX10_bars 130 = .ok (.irem, 1) := by decide +kernel
theorem dX10_bars_131 : decode cX10_bars 131 = .ok (.ifCond .ne 7, 3) := by decide +kernel
theorem dX10_bars_134 : decode cX10_bars 134 = .ok (.iconst (-1), 1) := by decide +kernel
theorem dX10_bars_135 : decode cX10_bars 135 = .ok (.goto 4, 3) := by decide +kernel
theorem dX10_bars_138 : decode cX10_bars 138 = .ok (.iconst 1, 1) := by decide +kernel
theorem dX10_bars_139 : decode cX10_bars 139 = .ok (.iadd, 1) := by decide +kernel
theorem dX10_bars_140 : decode cX10_bars 140 = .ok (.istore 6, 2) := by decide +kernel
theorem dX10_bars_142 : decode cX10_bars 142 = .ok (.aload_n 0, 1) := by decide +kernel
theorem dX10_bars_143 : decode cX10_bars 143 = .ok (.getfield 13, 3) := by decide +kernel
theorem dX10_bars_146 : decode cX10_bars 146 = .ok (.iload 4, 2) := by decide +kernel
theorem dX10_bars_148 : decode cX10_bars 148 = .ok (.iaload, 1) := by decide +kernel
theorem dX10_bars_149 : decode cX10_bars 149 = .ok (.iconst 1, 1) := by decide +kernel
theorem dX10_bars_150 : decode cX10_bars 150 = .ok (.if_icmp .eq 26, 3) := by decide +kernel
theorem dX10_bars_153 : decode cX10_bars 153 = .ok (.iload 6, 2) := by decide +kernel
theorem dX10_bars_155 : decode cX10_bars 155 = .ok (.i2l, 1) := by decide +kernel
theorem dX10_bars_156 : decode cX10_bars 156 = .ok (.lconst 0, 1) := by decide +kernel
theorem dX10_bars_157 : decode cX10_bars 157 = .ok (.aload_n 0, 1) := by decide +kernel
theorem dX10_bars_158 : decode cX10_bars 158 = .ok (.getfield 16, 3) := by decide +kernel
theorem dX10_bars_161 : decode cX10_bars 161 = .ok (.iload 4, 2) := by decide +kernel
theorem dX10_bars_163 : decode cX10_bars 163 = .ok (.iaload, 1) := by decide +kernel
theorem dX10_bars_164 : decode cX10_bars 164 = .ok (.iconst 1, 1) := by decide +kernel
theorem dX10_bars_165 : decode cX10_bars 165 = .ok (.isub, 1) := by decide +kernel
theorem dX10_bars_166 : decode cX10_bars 166 = .ok (.i2l, 1) := by decide +kernel
theorem dX10_bars_167 : decode cX10_bars 167 = .ok (.invokestatic 152, 3) := by decide +kernel
theorem dX10_bars_170 : decode cX10_bars 170 = .ok (.ifCond .ne 6, 3) := by decide +kernel
theorem dX10_bars_173 : decode cX10_bars 173 = .ok (.bipush (-3), 2) := by decide +kernel
theorem dX10_bars_175 : decode cX10_bars 175 = .ok (.ireturn, 1) := by decide +kernel
theorem dX10_bars_176 : decode cX10_bars 176 = .ok (.aload_n 0, 1) := by decide +kernel
theorem dX10_bars_177 : decode cX10_bars 177 = .ok (.iload_n 1, 1) := by decide +kernel
theorem dX10_bars_178 : decode cX10_bars 178 = .ok (.iload_n 3, 1) := by decide +kernel
theorem dX10_bars_179 : decode cX10_bars 179 = .ok (.invokevirtual 266, 3) := by decide +kernel
theorem dX10_bars_182 : decode cX10_bars 182 = .ok (.ireturn, 1) := by decide +kernel
theorem dX10_isFree_0 : decode cX10_isFree 0 = .ok (.aload_n 0, 1) := by decide +kernel
theorem dX10_isFree_1 : decode cX10_isFree 1 = .ok (.iload_n 1, 1) := by decide +kernel
theorem dX10_isFree_2 : decode cX10_isFree 2 = .ok (.iload_n 2, 1) := by decide +kernel
theorem dX10_isFree_3 : decode cX10_isFree 3 = .ok (.invokevirtual 271, 3) := by decide +kernel
theorem dX10_isFree_6 : decode cX10_isFree 6 = .ok (.istore_n 3, 1) := by decide +kernel
theorem dX10_isFree_7 : decode cX10_isFree 7 = .ok (.iload_n 3, 1) := by decide +kernel
theorem dX10_isFree_8 : decode cX10_isFree 8 = .ok (.bipush (-10), 2) := by decide +kernel
theorem dX10_isFree_10 : decode cX10_isFree 10 = .ok (.if_icmp .ge 11, 3) := by decide +kernel
theorem dX10_isFree_13 : decode cX10_isFree 13 = .ok (.aload_n 0, 1) := by decide +kernel
theorem dX10_isFree_14 : decode cX10_isFree 14 = .ok (.bipush (-10), 2) := by decide +kernel
theorem dX10_isFree_16 : decode cX10_isFree 16 = .ok (.iload_n 3, 1) := by decide +kernel
theorem dX10_isFree_17 : decode cX10_isFree 17 = .ok (.isub, 1) := by decide +kernel
theorem dX10_isFree_18 : decode cX10_isFree 18 = .ok (.invokevirtual 144, 3) := by decide +kernel
theorem dX10_isFree_21 : decode cX10_isFree 21 = .ok (.iload_n 3, 1) := by decide +kernel
theorem dX10_isFree_22 : decode cX10_isFree 22 = .ok (.iconst (-1), 1) := by decide +kernel
theorem dX10_isFree_23 : decode cX10_isFree 23 = .ok (.if_icmp .ne 7, 3) := by decide +kernel
theorem dX10_isFree_26 : decode cX10_isFree 26 = .ok (.iconst 1, 1) := by decide +kernel
theorem dX10_isFree_27 : decode cX10_isFree 27 = .ok (.goto 4, 3) := by decide +kernel
theorem dX10_isFree_30 : decode cX10_isFree 30 = .ok (.iconst 0, 1) := by decide +kernel
theorem dX10_isFree_31 : decode cX10_isFree 31 = .ok (.ireturn, 1) := by decide +kernel
theorem dX10_may_0 : decode cX10_may 0 = .ok (.aload_n 0, 1) := by decide +kernel
theorem dX10_may_1 : decode cX10_may 1 = .ok (.iconst 0, 1) := by decide +kernel
theorem dX10_may_2 : decode cX10_may 2 = .ok (.putfield 147, 3) := by decide +kernel
theorem dX10_may_5 : decode cX10_may 5 = .ok (.iload_n 1, 1) := by decide +kernel
theorem dX10_may_6 : decode cX10_may 6 = .ok (.invokestatic 167, 3) := by decide +kernel
theorem dX10_may_9 : decode cX10_may 9 = .ok (.ifCond .eq 15, 3) := by decide +kernel
theorem dX10_may_12 : decode cX10_may 12 = .ok (.iload_n 2, 1) := by decide +kernel
theorem dX10_may_13 : decode cX10_may 13 = .ok (.i2l, 1) := by decide +kernel
theorem dX10_may_14 : decode cX10_may 14 = .ok (.lconst 0, 1) := by decide +kernel
theorem dX10_may_15 : decode cX10_may 15 = .ok (.ldc2_w 274, 3) := by decide +kernel
theorem dX10_may_18 : decode cX10_may 18 = .ok (.invokestatic 152, 3) := by decide +kernel
theorem dX10_may_21 : decode cX10_may 21 = .ok (.ifCond .ne 22, 3) := by decide +kernel
theorem dX10_may_24 : decode cX10_may 24 = .ok (.aload_n 0, 1) := by decide +kernel
theorem dX10_may_25 : decode cX10_may 25 = .ok (.iload_n 1, 1) := by decide +kernel
theorem dX10_may_26 : decode cX10_may 26 = .ok (.invokestatic 167, 3) := by decide +kernel
theorem dX10_may_29 : decode cX10_may 29 = .ok (.ifCond .eq 8, 3) := by decide +kernel
theorem dX10_may_32 : decode cX10_may 32 = .ok (.bipush (-3), 2) := by decide +kernel
theorem dX10_may_34 : decode cX10_may 34 = .ok (.goto 5, 3) := by decide +kernel
theorem dX10_may_37 : decode cX10_may 37 = .ok (.bipush (-2), 2) := by decide +kernel
theorem dX10_may_39 : decode cX10_may 39 = .ok (.invokevirtual 173, 3) := by decide +kernel
theorem dX10_may_42 : decode cX10_may 42 = .ok (.ireturn, 1) := by decide +kernel
theorem dX10_may_43 : decode cX10_may 43 = .ok (.aload_n 0, 1) := by decide +kernel
theorem dX10_may_44 : decode cX10_may 44 = .ok (.aload_n 0, 1) := by decide +kernel
theorem dX10_may_45 : decode cX10_may 45 = .ok (.iload_n 1, 1) := by decide +kernel
theorem dX10_may_46 : decode cX10_may 46 = .ok (.iload_n 2, 1) := by decide +kernel
theorem dX10_may_47 : decode cX10_may 47 = .ok (.invokevirtual 276, 3) := by decide +kernel
theorem dX10_may_50 : decode cX10_may 50 = .ok (.ifCond .eq 7, 3) := by decide +kernel
theorem dX10_may_53 : decode cX10_may 53 = .ok (.iconst 1, 1) := by decide +kernel
theorem dX10_may_54 : decode cX10_may 54 = .ok (.goto 4, 3) := by decide +kernel
theorem dX10_may_57 : decode cX10_may 57 = .ok (.iconst 0, 1) := by decide +kernel
theorem dX10_may_58 : decode cX10_may 58 = .ok (.invokevirtual 183, 3) := by decide +kernel
theorem dX10_may_61 : decode cX10_may 61 = .ok (.ireturn, 1) := by decide +kernel
theorem dX10_barredBy_0 : decode cX10_barredBy 0 = .ok (.aload_n 0, 1) := by decide +kernel
theorem dX10_barredBy_1 : decode cX10_barredBy 1 = .ok (.iconst 0, 1) := by decide +kernel
theorem dX10_barredBy_2 : decode cX10_barredBy 2 = .ok (.putfield 147, 3) := by decide +kernel
theorem dX10_barredBy_5 : decode cX10_barredBy 5 = .ok (.iload_n 1, 1) := by decide +kernel
theorem dX10_barredBy_6 : decode cX10_barredBy 6 = .ok (.invokestatic 167, 3) := by decide +kernel
theorem dX10_barredBy_9 : decode cX10_barredBy 9 = .ok (.ifCond .ne 10, 3) := by decide +kernel
theorem dX10_barredBy_12 : decode cX10_barredBy 12 = .ok (.aload_n 0, 1) := by decide +kernel
theorem dX10_barredBy_13 : decode cX10_barredBy 13 = .ok (.bipush (-2), 2) := by decide +kernel
theorem dX10_barredBy_15 : decode cX10_barredBy 15 = .ok (.invokevirtual 173, 3) := by decide +kernel
theorem dX10_barredBy_18 : decode cX10_barredBy 18 = .ok (.ireturn, 1) := by decide +kernel
theorem dX10_barredBy_19 : decode cX10_barredBy 19 = .ok (.iload_n 2, 1) := by decide +kernel
theorem dX10_barredBy_20 : decode cX10_barredBy 20 = .ok (.i2l, 1) := by decide +kernel
theorem dX10_barredBy_21 : decode cX10_barredBy 21 = .ok (.lconst 0, 1) := by decide +kernel
theorem dX10_barredBy_22 : decode cX10_barredBy 22 = .ok (.ldc2_w 274, 3) := by decide +kernel
theorem dX10_barredBy_25 : decode cX10_barredBy 25 = .ok (.invokestatic 152, 3) := by decide +kernel
theorem dX10_barredBy_28 : decode cX10_barredBy 28 = .ok (.ifCond .ne 10, 3) := by decide +kernel
theorem dX10_barredBy_31 : decode cX10_barredBy 31 = .ok (.aload_n 0, 1) := by decide +kernel
theorem dX10_barredBy_32 : decode cX10_barredBy 32 = .ok (.bipush (-6), 2) := by decide +kernel
theorem dX10_barredBy_34 : decode cX10_barredBy 34 = .ok (.invokevirtual 173, 3) := by decide +kernel
theorem dX10_barredBy_37 : decode cX10_barredBy 37 = .ok (.ireturn, 1) := by decide +kernel
theorem dX10_barredBy_38 : decode cX10_barredBy 38 = .ok (.aload_n 0, 1) := by decide +kernel
theorem dX10_barredBy_39 : decode cX10_barredBy 39 = .ok (.iload_n 1, 1) := by decide +kernel
theorem dX10_barredBy_40 : decode cX10_barredBy 40 = .ok (.iload_n 2, 1) := by decide +kernel
theorem dX10_barredBy_41 : decode cX10_barredBy 41 = .ok (.invokevirtual 271, 3) := by decide +kernel
theorem dX10_barredBy_44 : decode cX10_barredBy 44 = .ok (.istore_n 3, 1) := by decide +kernel
theorem dX10_barredBy_45 : decode cX10_barredBy 45 = .ok (.iload_n 3, 1) := by decide +kernel
theorem dX10_barredBy_46 : decode cX10_barredBy 46 = .ok (.bipush (-10), 2) := by decide +kernel
theorem dX10_barredBy_48 : decode cX10_barredBy 48 = .ok (.if_icmp .ge 14, 3) := by decide +kernel
theorem dX10_barredBy_51 : decode cX10_barredBy 51 = .ok (.aload_n 0, 1) := by decide +kernel
theorem dX10_barredBy_52 : decode cX10_barredBy 52 = .ok (.bipush (-10), 2) := by decide +kernel
theorem dX10_barredBy_54 : decode cX10_barredBy 54 = .ok (.iload_n 3, 1) := by decide +kernel
theorem dX10_barredBy_55 : decode cX10_barredBy 55 = .ok (.isub, 1) := by decide +kernel
theorem dX10_barredBy_56 : decode cX10_barredBy 56 = .ok (.invokevirtual 177, 3) := by decide +kernel
theorem dX10_barredBy_59 : decode cX10_barredBy 59 = .ok (.goto 8, 3) := by decide +kernel
theorem dX10_barredBy_62 : decode cX10_barredBy 62 = .ok (.aload_n 0, 1) := by decide +kernel
theorem dX10_barredBy_63 : decode cX10_barredBy 63 = .ok (.iload_n 3, 1) := by decide +kernel
theorem dX10_barredBy_64 : decode cX10_barredBy 64 = .ok (.invokevirtual 183, 3) := by decide +kernel
theorem dX10_barredBy_67 : decode cX10_barredBy 67 = .ok (.ireturn, 1) := by decide +kernel
theorem dX10_isOpen_0 : decode cX10_isOpen 0 = .ok (.aload_n 0, 1) := by decide +kernel
theorem dX10_isOpen_1 : decode cX10_isOpen 1 = .ok (.iconst 0, 1) := by decide +kernel
theorem dX10_isOpen_2 : decode cX10_isOpen 2 = .ok (.putfield 147, 3) := by decide +kernel
theorem dX10_isOpen_5 : decode cX10_isOpen 5 = .ok (.iload_n 1, 1) := by decide +kernel
theorem dX10_isOpen_6 : decode cX10_isOpen 6 = .ok (.invokestatic 167, 3) := by decide +kernel
theorem dX10_isOpen_9 : decode cX10_isOpen 9 = .ok (.ifCond .ne 10, 3) := by decide +kernel
theorem dX10_isOpen_12 : decode cX10_isOpen 12 = .ok (.aload_n 0, 1) := by decide +kernel
theorem dX10_isOpen_13 : decode cX10_isOpen 13 = .ok (.bipush (-2), 2) := by decide +kernel
theorem dX10_isOpen_15 : decode cX10_isOpen 15 = .ok (.invokevirtual 173, 3) := by decide +kernel
theorem dX10_isOpen_18 : decode cX10_isOpen 18 = .ok (.ireturn, 1) := by decide +kernel
theorem dX10_isOpen_19 : decode cX10_isOpen 19 = .ok (.aload_n 0, 1) := by decide +kernel
theorem dX10_isOpen_20 : decode cX10_isOpen 20 = .ok (.aload_n 0, 1) := by decide +kernel
theorem dX10_isOpen_21 : decode cX10_isOpen 21 = .ok (.iload_n 1, 1) := by decide +kernel
theorem dX10_isOpen_22 : decode cX10_isOpen 22 = .ok (.invokevirtual 279, 3) := by decide +kernel
theorem dX10_isOpen_25 : decode cX10_isOpen 25 = .ok (.ifCond .eq 7, 3) := by decide +kernel
theorem dX10_isOpen_28 : decode cX10_isOpen 28 = .ok (.iconst 1, 1) := by decide +kernel
theorem dX10_isOpen_29 : decode cX10_isOpen 29 = .ok (.goto 4, 3) := by decide +kernel
theorem dX10_isOpen_32 : decode cX10_isOpen 32 = .ok (.iconst 0, 1) := by decide +kernel
theorem dX10_isOpen_33 : decode cX10_isOpen 33 = .ok (.invokevirtual 183, 3) := by decide +kernel
theorem dX10_isOpen_36 : decode cX10_isOpen 36 = .ok (.ireturn, 1) := by decide +kernel
theorem dX10_product_0 : decode cX10_product 0 = .ok (.iload_n 1, 1) := by decide +kernel
theorem dX10_product_1 : decode cX10_product 1 = .ok (.invokestatic 167, 3) := by decide +kernel
theorem dX10_product_4 : decode cX10_product 4 = .ok (.ifCond .eq 16, 3) := by decide +kernel
theorem dX10_product_7 : decode cX10_product 7 = .ok (.aload_n 0, 1) := by decide +kernel
theorem dX10_product_8 : decode cX10_product 8 = .ok (.aload_n 0, 1) := by decide +kernel
theorem dX10_product_9 : decode cX10_product 9 = .ok (.iload_n 1, 1) := by decide +kernel
theorem dX10_product_10 : decode cX10_product 10 = .ok (.iconst (-1), 1) := by decide +kernel
theorem dX10_product_11 : decode cX10_product 11 = .ok (.invokevirtual 193, 3) := by decide +kernel
theorem dX10_product_14 : decode cX10_product 14 = .ok (.invokevirtual 183, 3) := by decide +kernel
theorem dX10_product_17 : decode cX10_product 17 = .ok (.goto 9, 3) := by decide +kernel
theorem dX10_product_20 : decode cX10_product 20 = .ok (.aload_n 0, 1) := by decide +kernel
theorem dX10_product_21 : decode cX10_product 21 = .ok (.bipush (-2), 2) := by decide +kernel
theorem dX10_product_23 : decode cX10_product 23 = .ok (.invokevirtual 173, 3) := by decide +kernel
theorem dX10_product_26 : decode cX10_product 26 = .ok (.ireturn, 1) := by decide +kernel
theorem dX10_state_0 : decode cX10_state 0 = .ok (.iload_n 1, 1) := by decide +kernel
theorem dX10_state_1 : decode cX10_state 1 = .ok (.invokestatic 167, 3) := by decide +kernel
theorem dX10_state_4 : decode cX10_state 4 = .ok (.ifCond .eq 15, 3) := by decide +kernel
theorem dX10_state_7 : decode cX10_state 7 = .ok (.aload_n 0, 1) := by decide +kernel
theorem dX10_state_8 : decode cX10_state 8 = .ok (.aload_n 0, 1) := by decide +kernel
theorem dX10_state_9 : decode cX10_state 9 = .ok (.iload_n 1, 1) := by decide +kernel
theorem dX10_state_10 : decode cX10_state 10 = .ok (.invokevirtual 282, 3) := by decide +kernel
theorem dX10_state_13 : decode cX10_state 13 = .ok (.invokevirtual 183, 3) := by decide +kernel
theorem dX10_state_16 : decode cX10_state 16 = .ok (.goto 9, 3) := by decide +kernel
theorem dX10_state_19 : decode cX10_state 19 = .ok (.aload_n 0, 1) := by decide +kernel
theorem dX10_state_20 : decode cX10_state 20 = .ok (.bipush (-2), 2) := by decide +kernel
theorem dX10_state_22 : decode cX10_state 22 = .ok (.invokevirtual 173, 3) := by decide +kernel
theorem dX10_state_25 : decode cX10_state 25 = .ok (.ireturn, 1) := by decide +kernel
theorem dX10_ofNumber_0 : decode cX10_ofNumber 0 = .ok (.iload_n 1, 1) := by decide +kernel
theorem dX10_ofNumber_1 : decode cX10_ofNumber 1 = .ok (.invokestatic 167, 3) := by decide +kernel
theorem dX10_ofNumber_4 : decode cX10_ofNumber 4 = .ok (.ifCond .ne 10, 3) := by decide +kernel
theorem dX10_ofNumber_7 : decode cX10_ofNumber 7 = .ok (.aload_n 0, 1) := by decide +kernel
theorem dX10_ofNumber_8 : decode cX10_ofNumber 8 = .ok (.bipush (-2), 2) := by decide +kernel
theorem dX10_ofNumber_10 : decode cX10_ofNumber 10 = .ok (.invokevirtual 173, 3) := by decide +kernel
theorem dX10_ofNumber_13 : decode cX10_ofNumber 13 = .ok (.ireturn, 1) := by decide +kernel
theorem dX10_ofNumber_14 : decode cX10_ofNumber 14 = .ok (.iload_n 2, 1) := by decide +kernel
theorem dX10_ofNumber_15 : decode cX10_ofNumber 15 = .ok (.i2l, 1) := by decide +kernel
theorem dX10_ofNumber_16 : decode cX10_ofNumber 16 = .ok (.lconst 0, 1) := by decide +kernel
theorem dX10_ofNumber_17 : decode cX10_ofNumber 17 = .ok (.aload_n 0, 1) := by decide +kernel
theorem dX10_ofNumber_18 : decode cX10_ofNumber 18 = .ok (.iload_n 1, 1) := by decide +kernel
theorem dX10_ofNumber_19 : decode cX10_ofNumber 19 = .ok (.iconst (-1), 1) := by decide +kernel
theorem dX10_ofNumber_20 : decode cX10_ofNumber 20 = .ok (.invokevirtual 193, 3) := by decide +kernel
theorem dX10_ofNumber_23 : decode cX10_ofNumber 23 = .ok (.iconst 1, 1) := by decide +kernel
theorem dX10_ofNumber_24 : decode cX10_ofNumber 24 = .ok (.isub, 1) := by decide +kernel
theorem dX10_ofNumber_25 : decode cX10_ofNumber 25 = .ok (.i2l, 1) := by decide +kernel
theorem dX10_ofNumber_26 : decode cX10_ofNumber 26 = .ok (.invokestatic 152, 3) := by decide +kernel
theorem dX10_ofNumber_29 : decode cX10_ofNumber 29 = .ok (.ifCond .ne 10, 3) := by decide +kernel
theorem dX10_ofNumber_32 : decode cX10_ofNumber 32 = .ok (.aload_n 0, 1) := by decide +kernel
theorem dX10_ofNumber_33 : decode cX10_ofNumber 33 = .ok (.bipush (-3), 2) := by decide +kernel
theorem dX10_ofNumber_35 : decode cX10_ofNumber 35 = .ok (.invokevirtual 173, 3) := by decide +kernel
theorem dX10_ofNumber_38 : decode cX10_ofNumber 38 = .ok (.ireturn, 1) := by decide +kernel
theorem dX10_ofNumber_39 : decode cX10_ofNumber 39 = .ok (.aload_n 0, 1) := by decide +kernel
theorem dX10_ofNumber_40 : decode cX10_ofNumber 40 = .ok (.iload_n 1, 1) := by decide +kernel
theorem dX10_ofNumber_41 : decode cX10_ofNumber 41 = .ok (.invokevirtual 282, 3) := by decide +kernel
theorem dX10_ofNumber_44 : decode cX10_ofNumber 44 = .ok (.istore_n 3, 1) := by decide +kernel
theorem dX10_ofNumber_45 : decode cX10_ofNumber 45 = .ok (.aload_n 0, 1) := by decide +kernel
theorem dX10_ofNumber_46 : decode cX10_ofNumber 46 = .ok (.iload_n 1, 1) := by decide +kernel
theorem dX10_ofNumber_47 : decode cX10_ofNumber 47 = .ok (.iload_n 2, 1) := by decide +kernel
theorem dX10_ofNumber_48 : decode cX10_ofNumber 48 = .ok (.invokevirtual 285, 3) := by decide +kernel
theorem dX10_ofNumber_51 : decode cX10_ofNumber 51 = .ok (.aload_n 0, 1) := by decide +kernel
theorem dX10_ofNumber_52 : decode cX10_ofNumber 52 = .ok (.iload_n 3, 1) := by decide +kernel
theorem dX10_ofNumber_53 : decode cX10_ofNumber 53 = .ok (.invokevirtual 183, 3) := by decide +kernel
theorem dX10_ofNumber_56 : decode cX10_ofNumber 56 = .ok (.ireturn, 1) := by decide +kernel
theorem dX10_place_0 : decode cX10_place 0 = .ok (.iload_n 1, 1) := by decide +kernel
theorem dX10_place_1 : decode cX10_place 1 = .ok (.invokestatic 167, 3) := by decide +kernel
theorem dX10_place_4 : decode cX10_place 4 = .ok (.ifCond .eq 10, 3) := by decide +kernel
theorem dX10_place_7 : decode cX10_place 7 = .ok (.iload_n 2, 1) := by decide +kernel
theorem dX10_place_8 : decode cX10_place 8 = .ok (.invokestatic 186, 3) := by decide +kernel
theorem dX10_place_11 : decode cX10_place 11 = .ok (.ifCond .ne 22, 3) := by decide +kernel
theorem dX10_place_14 : decode cX10_place 14 = .ok (.aload_n 0, 1) := by decide +kernel
theorem dX10_place_15 : decode cX10_place 15 = .ok (.iload_n 1, 1) := by decide +kernel
theorem dX10_place_16 : decode cX10_place 16 = .ok (.invokestatic 167, 3) := by decide +kernel
theorem dX10_place_19 : decode cX10_place 19 = .ok (.ifCond .eq 8, 3) := by decide +kernel
theorem dX10_place_22 : decode cX10_place 22 = .ok (.bipush (-3), 2) := by decide +kernel
theorem dX10_place_24 : decode cX10_place 24 = .ok (.goto 5, 3) := by decide +kernel
theorem dX10_place_27 : decode cX10_place 27 = .ok (.bipush (-2), 2) := by decide +kernel
theorem dX10_place_29 : decode cX10_place 29 = .ok (.invokevirtual 173, 3) := by decide +kernel
theorem dX10_place_32 : decode cX10_place 32 = .ok (.ireturn, 1) := by decide +kernel
theorem dX10_place_33 : decode cX10_place 33 = .ok (.aload_n 0, 1) := by decide +kernel
theorem dX10_place_34 : decode cX10_place 34 = .ok (.iload_n 1, 1) := by decide +kernel
theorem dX10_place_35 : decode cX10_place 35 = .ok (.iload_n 2, 1) := by decide +kernel
theorem dX10_place_36 : decode cX10_place 36 = .ok (.invokevirtual 204, 3) := by decide +kernel
theorem dX10_place_39 : decode cX10_place 39 = .ok (.istore 4, 2) := by decide +kernel
theorem dX10_place_41 : decode cX10_place 41 = .ok (.bipush 16, 2) := by decide +kernel
theorem dX10_place_43 : decode cX10_place 43 = .ok (.iload_n 1, 1) := by decide +kernel
theorem dX10_place_44 : decode cX10_place 44 = .ok (.imul, 1) := by decide +kernel
theorem dX10_place_45 : decode cX10_place 45 = .ok (.iload_n 2, 1) := by decide +kernel
theorem dX10_place_46 : decode cX10_place 46 = .ok (.iadd, 1) := by decide +kernel
theorem dX10_place_47 : decode cX10_place 47 = .ok (.istore 5, 2) := by decide +kernel
theorem dX10_place_49 : decode cX10_place 49 = .ok (.iload 4, 2) := by decide +kernel
theorem dX10_place_51 : decode cX10_place 51 = .ok (.ifCond .ne 26, 3) := by decide +kernel
theorem dX10_place_54 : decode cX10_place 54 = .ok (.iload_n 3, 1) := by decide +kernel
theorem dX10_place_55 : decode cX10_place 55 = .ok (.i2l, 1) := by decide +kernel
theorem dX10_place_56 : decode cX10_place 56 = .ok (.lconst 0, 1) := by decide +kernel
theorem dX10_place_57 : decode cX10_place 57 = .ok (.aload_n 0, 1) := by decide +kernel
theorem dX10_place_58 : decode cX10_place 58 = .ok (.getfield 16, 3) := by decide +kernel
theorem dX10_place_61 : decode cX10_place 61 = .ok (.iload 5, 2) := by decide +kernel
theorem dX10_place_63 : decode cX10_place 63 = .ok (.iaload, 1) := by decide +kernel
theorem dX10_place_64 : decode cX10_place 64 = .ok (.iconst 1, 1) := by decide +kernel
theorem dX10_place_65 : decode cX10_place 65 = .ok (.isub, 1) := by decide +kernel
theorem dX10_place_66 : decode cX10_place 66 = .ok (.i2l, 1) := by decide +kernel
theorem dX10_place_67 : decode cX10_place 67 = .ok (.invokestatic 152, 3) := by decide +kernel
theorem dX10_place_70 : decode cX10_place 70 = .ok (.ifCond .ne 7, 3) := by decide +kernel
theorem dX10_place_73 : decode cX10_place 73 = .ok (.iconst 2, 1) := by decide +kernel
theorem dX10_place_74 : decode cX10_place 74 = .ok (.goto 5, 3) := by decide +kernel
theorem dX10_place_77 : decode cX10_place 77 = .ok (.iload 4, 2) := by decide +kernel
theorem dX10_place_79 : decode cX10_place 79 = .ok (.istore 4, 2) := by decide +kernel
theorem dX10_place_81 : decode cX10_place 81 = .ok (.iload 4, 2) := by decide +kernel
theorem dX10_place_83 : decode cX10_place 83 = .ok (.ifCond .eq 10, 3) := by decide +kernel
theorem dX10_place_86 : decode cX10_place 86 = .ok (.aload_n 0, 1) := by decide +kernel
theorem dX10_place_87 : decode cX10_place 87 = .ok (.iload 4, 2) := by decide +kernel
theorem dX10_place_89 : decode cX10_place 89 = .ok (.invokevirtual 177, 3) := by decide +kernel
theorem dX10_place_92 : decode cX10_place 92 = .ok (.ireturn, 1) := by decide +kernel
theorem dX10_place_93 : decode cX10_place 93 = .ok (.aload_n 0, 1) := by decide +kernel
theorem dX10_place_94 : decode cX10_place 94 = .ok (.getfield 19, 3) := by decide +kernel
theorem dX10_place_97 : decode cX10_place 97 = .ok (.iload 5, 2) := by decide +kernel
theorem dX10_place_99 : decode cX10_place 99 = .ok (.iaload, 1) := by decide +kernel
theorem dX10_place_100 : decode cX10_place 100 = .ok (.istore 6, 2) := by decide +kernel
theorem dX10_place_102 : decode cX10_place 102 = .ok (.aload_n 0, 1) := by decide +kernel
theorem dX10_place_103 : decode cX10_place 103 = .ok (.getfield 19, 3) := by decide +kernel
theorem dX10_place_106 : decode cX10_place 106 = .ok (.iload 5, 2) := by decide +kernel
theorem dX10_place_108 : decode cX10_place 108 = .ok (.iload_n 3, 1) := by decide +kernel
theorem dX10_place_109 : decode cX10_place 109 = .ok (.iastore, 1) := by decide +kernel
theorem dX10_place_110 : decode cX10_place 110 = .ok (.aload_n 0, 1) := by decide +kernel
theorem dX10_place_111 : decode cX10_place 111 = .ok (.iload 6, 2) := by decide +kernel
theorem dX10_place_113 : decode cX10_place 113 = .ok (.invokevirtual 183, 3) := by decide +kernel
theorem dX10_place_116 : decode cX10_place 116 = .ok (.ireturn, 1) := by decide +kernel
theorem dX10_tilts_0 : decode cX10_tilts 0 = .ok (.iconst 0, 1) := by decide +kernel
theorem dX10_tilts_1 : decode cX10_tilts 1 = .ok (.istore_n 3, 1) := by decide +kernel
theorem dX10_tilts_2 : decode cX10_tilts 2 = .ok (.iload_n 3, 1) := by decide +kernel
theorem dX10_tilts_3 : decode cX10_tilts 3 = .ok (.bipush 16, 2) := by decide +kernel
theorem dX10_tilts_5 : decode cX10_tilts 5 = .ok (.if_icmp .ge 184, 3) := by decide +kernel
theorem dX10_tilts_8 : decode cX10_tilts 8 = .ok (.bipush 16, 2) := by decide +kernel
theorem dX10_tilts_10 : decode cX10_tilts 10 = .ok (.iload_n 1, 1) := by decide +kernel
theorem dX10_tilts_11 : decode cX10_tilts 11 = .ok (.imul, 1) := by decide +kernel
theorem dX10_tilts_12 : decode cX10_tilts 12 = .ok (.iload_n 3, 1) := by decide +kernel
theorem dX10_tilts_13 : decode cX10_tilts 13 = .ok (.iadd, 1) := by decide +kernel
theorem dX10_tilts_14 : decode cX10_tilts 14 = .ok (.istore 4, 2) := by decide +kernel
theorem dX10_tilts_16 : decode cX10_tilts 16 = .ok (.aload_n 0, 1) := by decide +kernel
theorem dX10_tilts_17 : decode cX10_tilts 17 = .ok (.getfield 13, 3) := by decide +kernel
theorem dX10_tilts_20 : decode cX10_tilts 20 = .ok (.iload 4, 2) := by decide +kernel
theorem dX10_tilts_22 : decode cX10_tilts 22 = .ok (.iaload, 1) := by decide +kernel
theorem dX10_tilts_23 : decode cX10_tilts 23 = .ok (.iconst 2, 1) := by decide +kernel
theorem dX10_tilts_24 : decode cX10_tilts 24 = .ok (.if_icmp .eq 18, 3) := by decide +kernel
theorem dX10_tilts_27 : decode cX10_tilts 27 = .ok (.aload_n 0, 1) := by decide +kernel
theorem dX10_tilts_28 : decode cX10_tilts 28 = .ok (.getfield 13, 3) := by decide +kernel
theorem dX10_tilts_31 : decode cX10_tilts 31 = .ok (.iload 4, 2) := by decide +kernel
theorem dX10_tilts_33 : decode cX10_tilts 33 = .ok (.iaload, 1) := by decide +kernel
theorem dX10_tilts_34 : decode cX10_tilts 34 = .ok (.iconst 3, 1) := by decide +kernel
theorem dX10_tilts_35 : decode cX10_tilts 35 = .ok (.if_icmp .eq 7, 3) := by decide +kernel
theorem dX10_tilts_38 : decode cX10_tilts 38 = .ok (.iconst 0, 1) := by decide +kernel
theorem dX10_tilts_39 : decode cX10_tilts 39 = .ok (.goto 36, 3) := by decide +kernel
theorem dX10_tilts_42 : decode cX10_tilts 42 = .ok (.aload_n 0, 1) := by decide +kernel
theorem dX10_tilts_43 : decode cX10_tilts 43 = .ok (.getfield 22, 3) := by decide +kernel
theorem dX10_tilts_46 : decode cX10_tilts 46 = .ok (.iload 4, 2) := by decide +kernel
theorem dX10_tilts_48 : decode cX10_tilts 48 = .ok (.iaload, 1) := by decide +kernel
theorem dX10_tilts_49 : decode cX10_tilts 49 = .ok (.iload_n 2, 1) := by decide +kernel
theorem dX10_tilts_50 : decode cX10_tilts 50 = .ok (.if_icmp .ne 7, 3) := by decide +kernel
theorem dX10_tilts_53 : decode cX10_tilts 53 = .ok (.iconst 1, 1) := by decide +kernel
theorem dX10_tilts_54 : decode cX10_tilts 54 = .ok (.goto 21, 3) := by decide +kernel
theorem dX10_tilts_57 : decode cX10_tilts 57 = .ok (.aload_n 0, 1) := by decide +kernel
theorem dX10_tilts_58 : decode cX10_tilts 58 = .ok (.getfield 22, 3) := by decide +kernel
theorem dX10_tilts_61 : decode cX10_tilts 61 = .ok (.iload 4, 2) := by decide +kernel
theorem dX10_tilts_63 : decode cX10_tilts 63 = .ok (.iaload, 1) := by decide +kernel
theorem dX10_tilts_64 : decode cX10_tilts 64 = .ok (.iload_n 2, 1) := by decide +kernel
theorem dX10_tilts_65 : decode cX10_tilts 65 = .ok (.iconst 1, 1) := by decide +kernel
theorem dX10_tilts_66 : decode cX10_tilts 66 = .ok (.ixor, 1) := by decide +kernel
theorem dX10_tilts_67 : decode cX10_tilts 67 = .ok (.if_icmp .ne 7, 3) := by decide +kernel
theorem dX10_tilts_70 : decode cX10_tilts 70 = .ok (.iconst (-1), 1) := by decide +kernel
theorem dX10_tilts_71 : decode cX10_tilts 71 = .ok (.goto 4, 3) := by decide +kernel
theorem dX10_tilts_74 : decode cX10_tilts 74 = .ok (.iconst 0, 1) := by decide +kernel
theorem dX10_tilts_75 : decode cX10_tilts 75 = .ok (.istore 5, 2) := by decide +kernel
theorem dX10_tilts_77 : decode cX10_tilts 77 = .ok (.iload 5, 2) := by decide +kernel
theorem dX10_tilts_79 : decode cX10_tilts 79 = .ok (.ifCond .ne 6, 3) := by decide +kernel
theorem dX10_tilts_82 : decode cX10_tilts 82 = .ok (.goto 101, 3) := by decide +kernel
theorem dX10_tilts_85 : decode cX10_tilts 85 = .ok (.aload_n 0, 1) := by decide +kernel
theorem dX10_tilts_86 : decode cX10_tilts 86 = .ok (.getfield 13, 3) := by decide +kernel
theorem dX10_tilts_89 : decode cX10_tilts 89 = .ok (.iload 4, 2) := by decide +kernel
theorem dX10_tilts_91 : decode cX10_tilts 91 = .ok (.iaload, 1) := by decide +kernel
theorem dX10_tilts_92 : decode cX10_tilts 92 = .ok (.iconst 3, 1) := by decide +kernel
theorem dX10_tilts_93 : decode cX10_tilts 93 = .ok (.if_icmp .ne 31, 3) := by decide +kernel
theorem dX10_tilts_96 : decode cX10_tilts 96 = .ok (.aload_n 0, 1) := by decide +kernel
theorem dX10_tilts_97 : decode cX10_tilts 97 = .ok (.bipush 15, 2) := by decide +kernel
theorem dX10_tilts_99 : decode cX10_tilts 99 = .ok (.invokevirtual 254, 3) := by decide +kernel
theorem dX10_tilts_102 : decode cX10_tilts 102 = .ok (.aload_n 0, 1) := by decide +kernel
theorem dX10_tilts_103 : decode cX10_tilts 103 = .ok (.getfield 19, 3) := by decide +kernel
theorem dX10_tilts_106 : decode cX10_tilts 106 = .ok (.iload 4, 2) := by decide +kernel
theorem dX10_tilts_108 : decode cX10_tilts 108 = .ok (.iaload, 1) := by decide +kernel
theorem dX10_tilts_109 : decode cX10_tilts 109 = .ok (.aload_n 0, 1) := by decide +kernel
theorem dX10_tilts_110 : decode cX10_tilts 110 = .ok (.getfield 16, 3) := by decide +kernel
theorem dX10_tilts_113 : decode cX10_tilts 113 = .ok (.iload 4, 2) := by decide +kernel
theorem dX10_tilts_115 : decode cX10_tilts 115 = .ok (.iaload, 1) := by decide +kernel
theorem dX10_tilts_116 : decode cX10_tilts 116 = .ok (.iconst 1, 1) := by decide +kernel
theorem dX10_tilts_117 : decode cX10_tilts 117 = .ok (.isub, 1) := by decide +kernel
theorem dX10_tilts_118 : decode cX10_tilts 118 = .ok (.if_icmp .ne 6, 3) := by decide +kernel
theorem dX10_tilts_121 : decode cX10_tilts 121 = .ok (.goto 62, 3) := by decide +kernel
theorem dX10_tilts_124 : decode cX10_tilts 124 = .ok (.aload_n 0, 1) := by decide +kernel
theorem dX10_tilts_125 : decode cX10_tilts 125 = .ok (.bipush 13, 2) := by decide +kernel
theorem dX10_tilts_127 : decode cX10_tilts 127 = .ok (.invokevirtual 254, 3) := by decide +kernel
theorem dX10_tilts_130 : decode cX10_tilts 130 = .ok (.aload_n 0, 1) := by decide +kernel
theorem dX10_tilts_131 : decode cX10_tilts 131 = .ok (.getfield 19, 3) := by decide +kernel
theorem dX10_tilts_134 : decode cX10_tilts 134 = .ok (.iload 4, 2) := by decide +kernel
theorem dX10_tilts_136 : decode cX10_tilts 136 = .ok (.iaload, 1) := by decide +kernel
theorem dX10_tilts_137 : decode cX10_tilts 137 = .ok (.iload 5, 2) := by decide +kernel
theorem dX10_tilts_139 : decode cX10_tilts 139 = .ok (.iadd, 1) := by decide +kernel
theorem dX10_tilts_140 : decode cX10_tilts 140 = .ok (.i2l, 1) := by decide +kernel
theorem dX10_tilts_141 : decode cX10_tilts 141 = .ok (.lconst 0, 1) := by decide +kernel
theorem dX10_tilts_142 : decode cX10_tilts 142 = .ok (.aload_n 0, 1) := by decide +kernel
theorem dX10_tilts_143 : decode cX10_tilts 143 = .ok (.getfield 16, 3) := by decide +kernel
theorem dX10_tilts_146 : decode cX10_tilts 146 = .ok (.iload 4, 2) := by decide +kernel
theorem dX10_tilts_148 : decode cX10_tilts 148 = .ok (.iaload, 1) := by decide +kernel
theorem dX10_tilts_149 : decode cX10_tilts 149 = .ok (.iconst 1, 1) := by decide +kernel
theorem dX10_tilts_150 : decode cX10_tilts 150 = .ok (.isub, 1) := by decide +kernel
theorem dX10_tilts_151 : decode cX10_tilts 151 = .ok (.i2l, 1) := by decide +kernel
theorem dX10_tilts_152 : decode cX10_tilts 152 = .ok (.invokestatic 152, 3) := by decide +kernel
theorem dX10_tilts_155 : decode cX10_tilts 155 = .ok (.ifCond .eq 28, 3) := by decide +kernel
theorem dX10_tilts_158 : decode cX10_tilts 158 = .ok (.aload_n 0, 1) := by decide +kernel
theorem dX10_tilts_159 : decode cX10_tilts 159 = .ok (.iload_n 1, 1) := by decide +kernel
theorem dX10_tilts_160 : decode cX10_tilts 160 = .ok (.iload_n 3, 1) := by decide +kernel
theorem dX10_tilts_161 : decode cX10_tilts 161 = .ok (.invokevirtual 266, 3) := by decide +kernel
theorem dX10_tilts_164 : decode cX10_tilts 164 = .ok (.iconst (-1), 1) := by decide +kernel
theorem dX10_tilts_165 : decode cX10_tilts 165 = .ok (.if_icmp .ne 18, 3) := by decide +kernel
theorem dX10_tilts_168 : decode cX10_tilts 168 = .ok (.aload_n 0, 1) := by decide +kernel
theorem dX10_tilts_169 : decode cX10_tilts 169 = .ok (.getfield 19, 3) := by decide +kernel
theorem dX10_tilts_172 : decode cX10_tilts 172 = .ok (.iload 4, 2) := by decide +kernel
theorem dX10_tilts_174 : decode cX10_tilts 174 = .ok (.dup2, 1) := by decide +kernel
theorem dX10_tilts_175 : decode cX10_tilts 175 = .ok (.iaload, 1) := by decide +kernel
theorem dX10_tilts_176 : decode cX10_tilts 176 = .ok (.iload 5, 2) := by decide +kernel
theorem dX10_tilts_178 : decode cX10_tilts 178 = .ok (.iadd, 1) := by decide +kernel
theorem dX10_tilts_179 : decode cX10_tilts 179 = .ok (.iastore, 1) := by decide +kernel
theorem dX10_tilts_180 : decode cX10_tilts 180 = .ok (.goto (-50), 3) := by decide +kernel
theorem dX10_tilts_183 : decode cX10_tilts 183 = .ok (.iinc 3 1, 3) := by decide +kernel
theorem dX10_tilts_186 : decode cX10_tilts 186 = .ok (.goto (-184), 3) := by decide +kernel
theorem dX10_tilts_189 : decode cX10_tilts 189 = .ok (.return_, 1) := by decide +kernel
theorem dX10_does_0 : decode cX10_does 0 = .ok (.iload_n 2, 1) := by decide +kernel
theorem dX10_does_1 : decode cX10_does 1 = .ok (.bipush 32, 2) := by decide +kernel
theorem dX10_does_3 : decode cX10_does 3 = .ok (.if_icmp .lt 13, 3) := by decide +kernel
theorem dX10_does_6 : decode cX10_does 6 = .ok (.aload_n 0, 1) := by decide +kernel
theorem dX10_does_7 : decode cX10_does 7 = .ok (.iload_n 1, 1) := by decide +kernel
theorem dX10_does_8 : decode cX10_does 8 = .ok (.iload_n 2, 1) := by decide +kernel
theorem dX10_does_9 : decode cX10_does 9 = .ok (.bipush 32, 2) := by decide +kernel
theorem dX10_does_11 : decode cX10_does 11 = .ok (.isub, 1) := by decide +kernel
theorem dX10_does_12 : decode cX10_does 12 = .ok (.invokevirtual 288, 3) := by decide +kernel
theorem dX10_does_15 : decode cX10_does 15 = .ok (.return_, 1) := by decide +kernel
theorem dX10_does_16 : decode cX10_does 16 = .ok (.bipush 16, 2) := by decide +kernel
theorem dX10_does_18 : decode cX10_does 18 = .ok (.iload_n 1, 1) := by decide +kernel
theorem dX10_does_19 : decode cX10_does 19 = .ok (.imul, 1) := by decide +kernel
theorem dX10_does_20 : decode cX10_does 20 = .ok (.iload_n 2, 1) := by decide +kernel
theorem dX10_does_21 : decode cX10_does 21 = .ok (.iconst 2, 1) := by decide +kernel
theorem dX10_does_22 : decode cX10_does 22 = .ok (.idiv, 1) := by decide +kernel
theorem dX10_does_23 : decode cX10_does 23 = .ok (.iadd, 1) := by decide +kernel
theorem dX10_does_24 : decode cX10_does 24 = .ok (.istore_n 3, 1) := by decide +kernel
theorem dX10_does_25 : decode cX10_does 25 = .ok (.aload_n 0, 1) := by decide +kernel
theorem dX10_does_26 : decode cX10_does 26 = .ok (.getfield 19, 3) := by decide +kernel
theorem dX10_does_29 : decode cX10_does 29 = .ok (.iload_n 3, 1) := by decide +kernel
theorem dX10_does_30 : decode cX10_does 30 = .ok (.aload_n 0, 1) := by decide +kernel
theorem dX10_does_31 : decode cX10_does 31 = .ok (.getfield 19, 3) := by decide +kernel
theorem dX10_does_34 : decode cX10_does 34 = .ok (.iload_n 3, 1) := by decide +kernel
theorem dX10_does_35 : decode cX10_does 35 = .ok (.iaload, 1) := by decide +kernel
theorem dX10_does_36 : decode cX10_does 36 = .ok (.iload_n 2, 1) := by decide +kernel
theorem dX10_does_37 : decode cX10_does 37 = .ok (.iconst 2, 1) := by decide +kernel
theorem dX10_does_38 : decode cX10_does 38 = .ok (.irem, 1) := by decide +kernel
theorem dX10_does_39 : decode cX10_does 39 = .ok (.ifCond .ne 14, 3) := by decide +kernel
theorem dX10_does_42 : decode cX10_does 42 = .ok (.aload_n 0, 1) := by decide +kernel
theorem dX10_does_43 : decode cX10_does 43 = .ok (.getfield 16, 3) := by decide +kernel
theorem dX10_does_46 : decode cX10_does 46 = .ok (.iload_n 3, 1) := by decide +kernel
theorem dX10_does_47 : decode cX10_does 47 = .ok (.iaload, 1) := by decide +kernel
theorem dX10_does_48 : decode cX10_does 48 = .ok (.iconst 1, 1) := by decide +kernel
theorem dX10_does_49 : decode cX10_does 49 = .ok (.isub, 1) := by decide +kernel
theorem dX10_does_50 : decode cX10_does 50 = .ok (.goto 4, 3) := by decide +kernel
theorem dX10_does_53 : decode cX10_does 53 = .ok (.iconst 1, 1) := by decide +kernel
theorem dX10_does_54 : decode cX10_does 54 = .ok (.iadd, 1) := by decide +kernel
theorem dX10_does_55 : decode cX10_does 55 = .ok (.aload_n 0, 1) := by decide +kernel
theorem dX10_does_56 : decode cX10_does 56 = .ok (.getfield 16, 3) := by decide +kernel
theorem dX10_does_59 : decode cX10_does 59 = .ok (.iload_n 3, 1) := by decide +kernel
theorem dX10_does_60 : decode cX10_does 60 = .ok (.iaload, 1) := by decide +kernel
theorem dX10_does_61 : decode cX10_does 61 = .ok (.irem, 1) := by decide +kernel
theorem dX10_does_62 : decode cX10_does 62 = .ok (.iastore, 1) := by decide +kernel
theorem dX10_does_63 : decode cX10_does 63 = .ok (.return_, 1) := by decide +kernel
theorem dX10_keeps_0 : decode cX10_keeps 0 = .ok (.aload_n 0, 1) := by decide +kernel
theorem dX10_keeps_1 : decode cX10_keeps 1 = .ok (.getfield 46, 3) := by decide +kernel
theorem dX10_keeps_4 : decode cX10_keeps 4 = .ok (.iload_n 1, 1) := by decide +kernel
theorem dX10_keeps_5 : decode cX10_keeps 5 = .ok (.iaload, 1) := by decide +kernel
theorem dX10_keeps_6 : decode cX10_keeps 6 = .ok (.bipush 30, 2) := by decide +kernel
theorem dX10_keeps_8 : decode cX10_keeps 8 = .ok (.if_icmp .ne 51, 3) := by decide +kernel
theorem dX10_keeps_11 : decode cX10_keeps 11 = .ok (.iconst 1, 1) := by decide +kernel
theorem dX10_keeps_12 : decode cX10_keeps 12 = .ok (.istore_n 3, 1) := by decide +kernel
theorem dX10_keeps_13 : decode cX10_keeps 13 = .ok (.iload_n 3, 1) := by decide +kernel
theorem dX10_keeps_14 : decode cX10_keeps 14 = .ok (.bipush 30, 2) := by decide +kernel
theorem dX10_keeps_16 : decode cX10_keeps 16 = .ok (.if_icmp .ge 33, 3) := by decide +kernel
theorem dX10_keeps_19 : decode cX10_keeps 19 = .ok (.aload_n 0, 1) := by decide +kernel
theorem dX10_keeps_20 : decode cX10_keeps 20 = .ok (.getfield 49, 3) := by decide +kernel
theorem dX10_keeps_23 : decode cX10_keeps 23 = .ok (.bipush 30, 2) := by decide +kernel
theorem dX10_keeps_25 : decode cX10_keeps 25 = .ok (.iload_n 1, 1) := by decide +kernel
theorem dX10_keeps_26 : decode cX10_keeps 26 = .ok (.imul, 1) := by decide +kernel
theorem dX10_keeps_27 : decode cX10_keeps 27 = .ok (.iload_n 3, 1) := by decide +kernel
theorem dX10_keeps_28 : decode cX10_keeps 28 = .ok (.iadd, 1) := by decide +kernel
theorem dX10_keeps_29 : decode cX10_keeps 29 = .ok (.iconst 1, 1) := by decide +kernel
theorem dX10_keeps_30 : decode cX10_keeps 30 = .ok (.isub, 1) := by decide +kernel
theorem dX10_keeps_31 : decode cX10_keeps 31 = .ok (.aload_n 0, 1) := by decide +kernel
theorem dX10_keeps_32 : decode cX10_keeps 32 = .ok (.getfield 49, 3) := by decide +kernel
theorem dX10_keeps_35 : decode cX10_keeps 35 = .ok (.bipush 30, 2) := by decide +kernel
theorem dX10_keeps_37 : decode cX10_keeps 37 = .ok (.iload_n 1, 1) := by decide +kernel
theorem dX10_keeps_38 : decode cX10_keeps 38 = .ok (.imul, 1) := by decide +kernel
theorem dX10_keeps_39 : decode cX10_keeps 39 = .ok (.iload_n 3, 1) := by decide +kernel
theorem dX10_keeps_40 : decode cX10_keeps 40 = .ok (.iadd, 1) := by decide +kernel
theorem dX10_keeps_41 : decode cX10_keeps 41 = .ok (.iaload, 1) := by decide +kernel
theorem dX10_keeps_42 : decode cX10_keeps 42 = .ok (.iastore, 1) := by decide +kernel
theorem dX10_keeps_43 : decode cX10_keeps 43 = .ok (.iinc 3 1, 3) := by decide +kernel
theorem dX10_keeps_46 : decode cX10_keeps 46 = .ok (.goto (-33), 3) := by decide +kernel
theorem dX10_keeps_49 : decode cX10_keeps 49 = .ok (.aload_n 0, 1) := by decide +kernel
theorem dX10_keeps_50 : decode cX10_keeps 50 = .ok (.getfield 46, 3) := by decide +kernel
theorem dX10_keeps_53 : decode cX10_keeps 53 = .ok (.iload_n 1, 1) := by decide +kernel
theorem dX10_keeps_54 : decode cX10_keeps 54 = .ok (.dup2, 1) := by decide +kernel
theorem dX10_keeps_55 : decode cX10_keeps 55 = .ok (.iaload, 1) := by decide +kernel
theorem dX10_keeps_56 : decode cX10_keeps 56 = .ok (.iconst 1, 1) := by decide +kernel
theorem dX10_keeps_57 : decode cX10_keeps 57 = .ok (.isub, 1) := by decide +kernel
theorem dX10_keeps_58 : decode cX10_keeps 58 = .ok (.iastore, 1) := by decide +kernel
theorem dX10_keeps_59 : decode cX10_keeps 59 = .ok (.aload_n 0, 1) := by decide +kernel
theorem dX10_keeps_60 : decode cX10_keeps 60 = .ok (.getfield 49, 3) := by decide +kernel
theorem dX10_keeps_63 : decode cX10_keeps 63 = .ok (.bipush 30, 2) := by decide +kernel
theorem dX10_keeps_65 : decode cX10_keeps 65 = .ok (.iload_n 1, 1) := by decide +kernel
theorem dX10_keeps_66 : decode cX10_keeps 66 = .ok (.imul, 1) := by decide +kernel
theorem dX10_keeps_67 : decode cX10_keeps 67 = .ok (.aload_n 0, 1) := by decide +kernel
theorem dX10_keeps_68 : decode cX10_keeps 68 = .ok (.getfield 46, 3) := by decide +kernel
theorem dX10_keeps_71 : decode cX10_keeps 71 = .ok (.iload_n 1, 1) := by decide +kernel
theorem dX10_keeps_72 : decode cX10_keeps 72 = .ok (.iaload, 1) := by decide +kernel
theorem dX10_keeps_73 : decode cX10_keeps 73 = .ok (.iadd, 1) := by decide +kernel
theorem dX10_keeps_74 : decode cX10_keeps 74 = .ok (.iload_n 2, 1) := by decide +kernel
theorem dX10_keeps_75 : decode cX10_keeps 75 = .ok (.iastore, 1) := by decide +kernel
theorem dX10_keeps_76 : decode cX10_keeps 76 = .ok (.aload_n 0, 1) := by decide +kernel
theorem dX10_keeps_77 : decode cX10_keeps 77 = .ok (.getfield 46, 3) := by decide +kernel
theorem dX10_keeps_80 : decode cX10_keeps 80 = .ok (.iload_n 1, 1) := by decide +kernel
theorem dX10_keeps_81 : decode cX10_keeps 81 = .ok (.dup2, 1) := by decide +kernel
theorem dX10_keeps_82 : decode cX10_keeps 82 = .ok (.iaload, 1) := by decide +kernel
theorem dX10_keeps_83 : decode cX10_keeps 83 = .ok (.iconst 1, 1) := by decide +kernel
theorem dX10_keeps_84 : decode cX10_keeps 84 = .ok (.iadd, 1) := by decide +kernel
theorem dX10_keeps_85 : decode cX10_keeps 85 = .ok (.iastore, 1) := by decide +kernel
theorem dX10_keeps_86 : decode cX10_keeps 86 = .ok (.return_, 1) := by decide +kernel
theorem dX10_stuck_0 : decode cX10_stuck 0 = .ok (.iload_n 2, 1) := by decide +kernel
theorem dX10_stuck_1 : decode cX10_stuck 1 = .ok (.bipush 32, 2) := by decide +kernel
theorem dX10_stuck_3 : decode cX10_stuck 3 = .ok (.if_icmp .ge 32, 3) := by decide +kernel
theorem dX10_stuck_6 : decode cX10_stuck 6 = .ok (.iload_n 2, 1) := by decide +kernel
theorem dX10_stuck_7 : decode cX10_stuck 7 = .ok (.iconst 2, 1) := by decide +kernel
theorem dX10_stuck_8 : decode cX10_stuck 8 = .ok (.idiv, 1) := by decide +kernel
theorem dX10_stuck_9 : decode cX10_stuck 9 = .ok (.aload_n 0, 1) := by decide +kernel
theorem dX10_stuck_10 : decode cX10_stuck 10 = .ok (.getfield 43, 3) := by decide +kernel
theorem dX10_stuck_13 : decode cX10_stuck 13 = .ok (.iload_n 1, 1) := by decide +kernel
theorem dX10_stuck_14 : decode cX10_stuck 14 = .ok (.iaload, 1) := by decide +kernel
theorem dX10_stuck_15 : decode cX10_stuck 15 = .ok (.if_icmp .ne 20, 3) := by decide +kernel
theorem dX10_stuck_18 : decode cX10_stuck 18 = .ok (.aload_n 0, 1) := by decide +kernel
theorem dX10_stuck_19 : decode cX10_stuck 19 = .ok (.getfield 40, 3) := by decide +kernel
theorem dX10_stuck_22 : decode cX10_stuck 22 = .ok (.iload_n 1, 1) := by decide +kernel
theorem dX10_stuck_23 : decode cX10_stuck 23 = .ok (.iaload, 1) := by decide +kernel
theorem dX10_stuck_24 : decode cX10_stuck 24 = .ok (.ifCond .ne 7, 3) := by decide +kernel
theorem dX10_stuck_27 : decode cX10_stuck 27 = .ok (.iconst 1, 1) := by decide +kernel
theorem dX10_stuck_28 : decode cX10_stuck 28 = .ok (.goto 8, 3) := by decide +kernel
theorem dX10_stuck_31 : decode cX10_stuck 31 = .ok (.iconst 5, 1) := by decide +kernel
theorem dX10_stuck_32 : decode cX10_stuck 32 = .ok (.goto 4, 3) := by decide +kernel
theorem dX10_stuck_35 : decode cX10_stuck 35 = .ok (.iconst 0, 1) := by decide +kernel
theorem dX10_stuck_36 : decode cX10_stuck 36 = .ok (.ireturn, 1) := by decide +kernel
theorem dX10_move_0 : decode cX10_move 0 = .ok (.aload_n 0, 1) := by decide +kernel
theorem dX10_move_1 : decode cX10_move 1 = .ok (.iconst 0, 1) := by decide +kernel
theorem dX10_move_2 : decode cX10_move 2 = .ok (.putfield 147, 3) := by decide +kernel
theorem dX10_move_5 : decode cX10_move 5 = .ok (.iload_n 1, 1) := by decide +kernel
theorem dX10_move_6 : decode cX10_move 6 = .ok (.invokestatic 167, 3) := by decide +kernel
theorem dX10_move_9 : decode cX10_move 9 = .ok (.ifCond .eq 15, 3) := by decide +kernel
theorem dX10_move_12 : decode cX10_move 12 = .ok (.iload_n 2, 1) := by decide +kernel
theorem dX10_move_13 : decode cX10_move 13 = .ok (.i2l, 1) := by decide +kernel
theorem dX10_move_14 : decode cX10_move 14 = .ok (.lconst 0, 1) := by decide +kernel
theorem dX10_move_15 : decode cX10_move 15 = .ok (.ldc2_w 274, 3) := by decide +kernel
theorem dX10_move_18 : decode cX10_move 18 = .ok (.invokestatic 152, 3) := by decide +kernel
theorem dX10_move_21 : decode cX10_move 21 = .ok (.ifCond .ne 22, 3) := by decide +kernel
theorem dX10_move_24 : decode cX10_move 24 = .ok (.aload_n 0, 1) := by decide +kernel
theorem dX10_move_25 : decode cX10_move 25 = .ok (.iload_n 1, 1) := by decide +kernel
theorem dX10_move_26 : decode cX10_move 26 = .ok (.invokestatic 167, 3) := by decide +kernel
theorem dX10_move_29 : decode cX10_move 29 = .ok (.ifCond .eq 8, 3) := by decide +kernel
theorem dX10_move_32 : decode cX10_move 32 = .ok (.bipush (-3), 2) := by decide +kernel
theorem dX10_move_34 : decode cX10_move 34 = .ok (.goto 5, 3) := by decide +kernel
theorem dX10_move_37 : decode cX10_move 37 = .ok (.bipush (-2), 2) := by decide +kernel
theorem dX10_move_39 : decode cX10_move 39 = .ok (.invokevirtual 173, 3) := by decide +kernel
theorem dX10_move_42 : decode cX10_move 42 = .ok (.ireturn, 1) := by decide +kernel
theorem dX10_move_43 : decode cX10_move 43 = .ok (.aload_n 0, 1) := by decide +kernel
theorem dX10_move_44 : decode cX10_move 44 = .ok (.iload_n 1, 1) := by decide +kernel
theorem dX10_move_45 : decode cX10_move 45 = .ok (.iload_n 2, 1) := by decide +kernel
theorem dX10_move_46 : decode cX10_move 46 = .ok (.invokevirtual 276, 3) := by decide +kernel
theorem dX10_move_49 : decode cX10_move 49 = .ok (.ifCond .ne 9, 3) := by decide +kernel
theorem dX10_move_52 : decode cX10_move 52 = .ok (.aload_n 0, 1) := by decide +kernel
theorem dX10_move_53 : decode cX10_move 53 = .ok (.iconst 0, 1) := by decide +kernel
theorem dX10_move_54 : decode cX10_move 54 = .ok (.invokevirtual 183, 3) := by decide +kernel
theorem dX10_move_57 : decode cX10_move 57 = .ok (.ireturn, 1) := by decide +kernel
theorem dX10_move_58 : decode cX10_move 58 = .ok (.aload_n 0, 1) := by decide +kernel
theorem dX10_move_59 : decode cX10_move 59 = .ok (.iload_n 1, 1) := by decide +kernel
theorem dX10_move_60 : decode cX10_move 60 = .ok (.iload_n 2, 1) := by decide +kernel
theorem dX10_move_61 : decode cX10_move 61 = .ok (.invokevirtual 291, 3) := by decide +kernel
theorem dX10_move_64 : decode cX10_move 64 = .ok (.istore_n 3, 1) := by decide +kernel
theorem dX10_move_65 : decode cX10_move 65 = .ok (.iload_n 3, 1) := by decide +kernel
theorem dX10_move_66 : decode cX10_move 66 = .ok (.ifCond .eq 9, 3) := by decide +kernel
theorem dX10_move_69 : decode cX10_move 69 = .ok (.aload_n 0, 1) := by decide +kernel
theorem dX10_move_70 : decode cX10_move 70 = .ok (.iload_n 3, 1) := by decide +kernel
theorem dX10_move_71 : decode cX10_move 71 = .ok (.invokevirtual 177, 3) := by decide +kernel
theorem dX10_move_74 : decode cX10_move 74 = .ok (.ireturn, 1) := by decide +kernel
theorem dX10_move_75 : decode cX10_move 75 = .ok (.aload_n 0, 1) := by decide +kernel
theorem dX10_move_76 : decode cX10_move 76 = .ok (.iload_n 1, 1) := by decide +kernel
theorem dX10_move_77 : decode cX10_move 77 = .ok (.aload_n 0, 1) := by decide +kernel
theorem dX10_move_78 : decode cX10_move 78 = .ok (.iload_n 1, 1) := by decide +kernel
theorem dX10_move_79 : decode cX10_move 79 = .ok (.invokevirtual 282, 3) := by decide +kernel
theorem dX10_move_82 : decode cX10_move 82 = .ok (.invokevirtual 294, 3) := by decide +kernel
theorem dX10_move_85 : decode cX10_move 85 = .ok (.aload_n 0, 1) := by decide +kernel
theorem dX10_move_86 : decode cX10_move 86 = .ok (.iload_n 1, 1) := by decide +kernel
theorem dX10_move_87 : decode cX10_move 87 = .ok (.iload_n 2, 1) := by decide +kernel
theorem dX10_move_88 : decode cX10_move 88 = .ok (.invokevirtual 297, 3) := by decide +kernel
theorem dX10_move_91 : decode cX10_move 91 = .ok (.aload_n 0, 1) := by decide +kernel
theorem dX10_move_92 : decode cX10_move 92 = .ok (.iconst 1, 1) := by decide +kernel
theorem dX10_move_93 : decode cX10_move 93 = .ok (.invokevirtual 183, 3) := by decide +kernel
theorem dX10_move_96 : decode cX10_move 96 = .ok (.ireturn, 1) := by decide +kernel
theorem dX10_type_0 : decode cX10_type 0 = .ok (.iload_n 1, 1) := by decide +kernel
theorem dX10_type_1 : decode cX10_type 1 = .ok (.i2l, 1) := by decide +kernel
theorem dX10_type_2 : decode cX10_type 2 = .ok (.lconst 0, 1) := by decide +kernel
theorem dX10_type_3 : decode cX10_type 3 = .ok (.ldc2_w 274, 3) := by decide +kernel
theorem dX10_type_6 : decode cX10_type 6 = .ok (.invokestatic 152, 3) := by decide +kernel
theorem dX10_type_9 : decode cX10_type 9 = .ok (.ifCond .ne 10, 3) := by decide +kernel
theorem dX10_type_12 : decode cX10_type 12 = .ok (.aload_n 0, 1) := by decide +kernel
theorem dX10_type_13 : decode cX10_type 13 = .ok (.bipush (-3), 2) := by decide +kernel
theorem dX10_type_15 : decode cX10_type 15 = .ok (.invokevirtual 173, 3) := by decide +kernel
theorem dX10_type_18 : decode cX10_type 18 = .ok (.ireturn, 1) := by decide +kernel
theorem dX10_type_19 : decode cX10_type 19 = .ok (.aload_n 0, 1) := by decide +kernel
theorem dX10_type_20 : decode cX10_type 20 = .ok (.getfield 300, 3) := by decide +kernel
theorem dX10_type_23 : decode cX10_type 23 = .ok (.bipush 40, 2) := by decide +kernel
theorem dX10_type_25 : decode cX10_type 25 = .ok (.if_icmp .ne 10, 3) := by decide +kernel
theorem dX10_type_28 : decode cX10_type 28 = .ok (.aload_n 0, 1) := by decide +kernel
theorem dX10_type_29 : decode cX10_type 29 = .ok (.bipush (-5), 2) := by decide +kernel
theorem dX10_type_31 : decode cX10_type 31 = .ok (.invokevirtual 173, 3) := by decide +kernel
theorem dX10_type_34 : decode cX10_type 34 = .ok (.ireturn, 1) := by decide +kernel
theorem dX10_type_35 : decode cX10_type 35 = .ok (.aload_n 0, 1) := by decide +kernel
theorem dX10_type_36 : decode cX10_type 36 = .ok (.getfield 61, 3) := by decide +kernel
theorem dX10_type_39 : decode cX10_type 39 = .ok (.aload_n 0, 1) := by decide +kernel
theorem dX10_type_40 : decode cX10_type 40 = .ok (.getfield 300, 3) := by decide +kernel
theorem dX10_type_43 : decode cX10_type 43 = .ok (.iload_n 1, 1) := by decide +kernel
theorem dX10_type_44 : decode cX10_type 44 = .ok (.iastore, 1) := by decide +kernel
theorem dX10_type_45 : decode cX10_type 45 = .ok (.aload_n 0, 1) := by decide +kernel
theorem dX10_type_46 : decode cX10_type 46 = .ok (.dup, 1) := by decide +kernel
theorem dX10_type_47 : decode cX10_type 47 = .ok (.getfield 300, 3) := by decide +kernel
theorem dX10_type_50 : decode cX10_type 50 = .ok (.iconst 1, 1) := by decide +kernel
theorem dX10_type_51 : decode cX10_type 51 = .ok (.iadd, 1) := by decide +kernel
theorem dX10_type_52 : decode cX10_type 52 = .ok (.putfield 300, 3) := by decide +kernel
theorem dX10_type_55 : decode cX10_type 55 = .ok (.aload_n 0, 1) := by decide +kernel
theorem dX10_type_56 : decode cX10_type 56 = .ok (.aload_n 0, 1) := by decide +kernel
theorem dX10_type_57 : decode cX10_type 57 = .ok (.getfield 300, 3) := by decide +kernel
theorem dX10_type_60 : decode cX10_type 60 = .ok (.invokevirtual 183, 3) := by decide +kernel
theorem dX10_type_63 : decode cX10_type 63 = .ok (.ireturn, 1) := by decide +kernel
theorem dX10_untype_0 : decode cX10_untype 0 = .ok (.aload_n 0, 1) := by decide +kernel
theorem dX10_untype_1 : decode cX10_untype 1 = .ok (.getfield 300, 3) := by decide +kernel
theorem dX10_untype_4 : decode cX10_untype 4 = .ok (.istore_n 1, 1) := by decide +kernel
theorem dX10_untype_5 : decode cX10_untype 5 = .ok (.aload_n 0, 1) := by decide +kernel
theorem dX10_untype_6 : decode cX10_untype 6 = .ok (.iconst 0, 1) := by decide +kernel
theorem dX10_untype_7 : decode cX10_untype 7 = .ok (.putfield 300, 3) := by decide +kernel
theorem dX10_untype_10 : decode cX10_untype 10 = .ok (.aload_n 0, 1) := by decide +kernel
theorem dX10_untype_11 : decode cX10_untype 11 = .ok (.iload_n 1, 1) := by decide +kernel
theorem dX10_untype_12 : decode cX10_untype 12 = .ok (.invokevirtual 183, 3) := by decide +kernel
theorem dX10_untype_15 : decode cX10_untype 15 = .ok (.ireturn, 1) := by decide +kernel
theorem dX10_runs_0 : decode cX10_runs 0 = .ok (.aload_n 0, 1) := by decide +kernel
theorem dX10_runs_1 : decode cX10_runs 1 = .ok (.iconst 0, 1) := by decide +kernel
theorem dX10_runs_2 : decode cX10_runs 2 = .ok (.putfield 303, 3) := by decide +kernel
theorem dX10_runs_5 : decode cX10_runs 5 = .ok (.iconst 0, 1) := by decide +kernel
theorem dX10_runs_6 : decode cX10_runs 6 = .ok (.istore_n 2, 1) := by decide +kernel
theorem dX10_runs_7 : decode cX10_runs 7 = .ok (.iload_n 2, 1) := by decide +kernel
theorem dX10_runs_8 : decode cX10_runs 8 = .ok (.aload_n 0, 1) := by decide +kernel
theorem dX10_runs_9 : decode cX10_runs 9 = .ok (.getfield 300, 3) := by decide +kernel
theorem dX10_runs_12 : decode cX10_runs 12 = .ok (.if_icmp .ge 77, 3) := by decide +kernel
theorem dX10_runs_15 : decode cX10_runs 15 = .ok (.aload_n 0, 1) := by decide +kernel
theorem dX10_runs_16 : decode cX10_runs 16 = .ok (.iload_n 1, 1) := by decide +kernel
theorem dX10_runs_17 : decode cX10_runs 17 = .ok (.aload_n 0, 1) := by decide +kernel
theorem dX10_runs_18 : decode cX10_runs 18 = .ok (.getfield 61, 3) := by decide +kernel
theorem dX10_runs_21 : decode cX10_runs 21 = .ok (.iload_n 2, 1) := by decide +kernel
theorem dX10_runs_22 : decode cX10_runs 22 = .ok (.iaload, 1) := by decide +kernel
theorem dX10_runs_23 : decode cX10_runs 23 = .ok (.invokevirtual 276, 3) := by decide +kernel
theorem dX10_runs_26 : decode cX10_runs 26 = .ok (.ifCond .eq 63, 3) := by decide +kernel
theorem dX10_runs_29 : decode cX10_runs 29 = .ok (.aload_n 0, 1) := by decide +kernel
theorem dX10_runs_30 : decode cX10_runs 30 = .ok (.aload_n 0, 1) := by decide +kernel
theorem dX10_runs_31 : decode cX10_runs 31 = .ok (.iload_n 1, 1) := by decide +kernel
theorem dX10_runs_32 : decode cX10_runs 32 = .ok (.aload_n 0, 1) := by decide +kernel
theorem dX10_runs_33 : decode cX10_runs 33 = .ok (.getfield 61, 3) := by decide +kernel
theorem dX10_runs_36 : decode cX10_runs 36 = .ok (.iload_n 2, 1) := by decide +kernel
theorem dX10_runs_37 : decode cX10_runs 37 = .ok (.iaload, 1) := by decide +kernel
theorem dX10_runs_38 : decode cX10_runs 38 = .ok (.invokevirtual 291, 3) := by decide +kernel
theorem dX10_runs_41 : decode cX10_runs 41 = .ok (.putfield 303, 3) := by decide +kernel
theorem dX10_runs_44 : decode cX10_runs 44 = .ok (.aload_n 0, 1) := by decide +kernel
theorem dX10_runs_45 : decode cX10_runs 45 = .ok (.getfield 303, 3) := by decide +kernel
theorem dX10_runs_48 : decode cX10_runs 48 = .ok (.ifCond .eq 13, 3) := by decide +kernel
theorem dX10_runs_51 : decode cX10_runs 51 = .ok (.aload_n 0, 1) := by decide +kernel
theorem dX10_runs_52 : decode cX10_runs 52 = .ok (.aload_n 0, 1) := by decide +kernel
theorem dX10_runs_53 : decode cX10_runs 53 = .ok (.getfield 303, 3) := by decide +kernel
theorem dX10_runs_56 : decode cX10_runs 56 = .ok (.invokevirtual 144, 3) := by decide +kernel
theorem dX10_runs_59 : decode cX10_runs 59 = .ok (.iload_n 2, 1) := by decide +kernel
theorem dX10_runs_60 : decode cX10_runs 60 = .ok (.ireturn, 1) := by decide +kernel
theorem dX10_runs_61 : decode cX10_runs 61 = .ok (.aload_n 0, 1) := by decide +kernel
theorem dX10_runs_62 : decode cX10_runs 62 = .ok (.getfield 64, 3) := by decide +kernel
theorem dX10_runs_65 : decode cX10_runs 65 = .ok (.iload_n 2, 1) := by decide +kernel
theorem dX10_runs_66 : decode cX10_runs 66 = .ok (.aload_n 0, 1) := by decide +kernel
theorem dX10_runs_67 : decode cX10_runs 67 = .ok (.iload_n 1, 1) := by decide +kernel
theorem dX10_runs_68 : decode cX10_runs 68 = .ok (.invokevirtual 282, 3) := by decide +kernel
theorem dX10_runs_71 : decode cX10_runs 71 = .ok (.iastore, 1) := by decide +kernel
theorem dX10_runs_72 : decode cX10_runs 72 = .ok (.aload_n 0, 1) := by decide +kernel
theorem dX10_runs_73 : decode cX10_runs 73 = .ok (.iload_n 1, 1) := by decide +kernel
theorem dX10_runs_74 : decode cX10_runs 74 = .ok (.aload_n 0, 1) := by decide +kernel
theorem dX10_runs_75 : decode cX10_runs 75 = .ok (.getfield 61, 3) := by decide +kernel
theorem dX10_runs_78 : decode cX10_runs 78 = .ok (.iload_n 2, 1) := by decide +kernel
theorem dX10_runs_79 : decode cX10_runs 79 = .ok (.iaload, 1) := by decide +kernel
theorem dX10_runs_80 : decode cX10_runs 80 = .ok (.invokevirtual 297, 3) := by decide +kernel
theorem dX10_runs_83 : decode cX10_runs 83 = .ok (.iinc 2 1, 3) := by decide +kernel
theorem dX10_runs_86 : decode cX10_runs 86 = .ok (.goto (-79), 3) := by decide +kernel
theorem dX10_runs_89 : decode cX10_runs 89 = .ok (.iload_n 2, 1) := by decide +kernel
theorem dX10_runs_90 : decode cX10_runs 90 = .ok (.ireturn, 1) := by decide +kernel
theorem dX10_keepAll_0 : decode cX10_keepAll 0 = .ok (.iconst 0, 1) := by decide +kernel
theorem dX10_keepAll_1 : decode cX10_keepAll 1 = .ok (.istore_n 3, 1) := by decide +kernel
theorem dX10_keepAll_2 : decode cX10_keepAll 2 = .ok (.iload_n 3, 1) := by decide +kernel
theorem dX10_keepAll_3 : decode cX10_keepAll 3 = .ok (.iload_n 2, 1) := by decide +kernel
theorem dX10_keepAll_4 : decode cX10_keepAll 4 = .ok (.if_icmp .ge 20, 3) := by decide +kernel
theorem dX10_keepAll_7 : decode cX10_keepAll 7 = .ok (.aload_n 0, 1) := by decide +kernel
theorem dX10_keepAll_8 : decode cX10_keepAll 8 = .ok (.iload_n 1, 1) := by decide +kernel
theorem dX10_keepAll_9 : decode cX10_keepAll 9 = .ok (.aload_n 0, 1) := by decide +kernel
theorem dX10_keepAll_10 : decode cX10_keepAll 10 = .ok (.getfield 64, 3) := by decide +kernel
theorem dX10_keepAll_13 : decode cX10_keepAll 13 = .ok (.iload_n 3, 1) := by decide +kernel
theorem dX10_keepAll_14 : decode cX10_keepAll 14 = .ok (.iaload, 1) := by decide +kernel
theorem dX10_keepAll_15 : decode cX10_keepAll 15 = .ok (.invokevirtual 294, 3) := by decide +kernel
theorem dX10_keepAll_18 : decode cX10_keepAll 18 = .ok (.iinc 3 1, 3) := by decide +kernel
theorem dX10_keepAll_21 : decode cX10_keepAll 21 = .ok (.goto (-19), 3) := by decide +kernel
theorem dX10_keepAll_24 : decode cX10_keepAll 24 = .ok (.return_, 1) := by decide +kernel
theorem dX10_play_0 : decode cX10_play 0 = .ok (.aload_n 0, 1) := by decide +kernel
theorem dX10_play_1 : decode cX10_play 1 = .ok (.iconst 0, 1) := by decide +kernel
theorem dX10_play_2 : decode cX10_play 2 = .ok (.putfield 147, 3) := by decide +kernel
theorem dX10_play_5 : decode cX10_play 5 = .ok (.iload_n 1, 1) := by decide +kernel
theorem dX10_play_6 : decode cX10_play 6 = .ok (.invokestatic 167, 3) := by decide +kernel
theorem dX10_play_9 : decode cX10_play 9 = .ok (.ifCond .ne 10, 3) := by decide +kernel
theorem dX10_play_12 : decode cX10_play 12 = .ok (.aload_n 0, 1) := by decide +kernel
theorem dX10_play_13 : decode cX10_play 13 = .ok (.bipush (-2), 2) := by decide +kernel
theorem dX10_play_15 : decode cX10_play 15 = .ok (.invokevirtual 173, 3) := by decide +kernel
theorem dX10_play_18 : decode cX10_play 18 = .ok (.ireturn, 1) := by decide +kernel
theorem dX10_play_19 : decode cX10_play 19 = .ok (.aload_n 0, 1) := by decide +kernel
theorem dX10_play_20 : decode cX10_play 20 = .ok (.iload_n 1, 1) := by decide +kernel
theorem dX10_play_21 : decode cX10_play 21 = .ok (.invokevirtual 306, 3) := by decide +kernel
theorem dX10_play_24 : decode cX10_play 24 = .ok (.istore_n 2, 1) := by decide +kernel
theorem dX10_play_25 : decode cX10_play 25 = .ok (.aload_n 0, 1) := by decide +kernel
theorem dX10_play_26 : decode cX10_play 26 = .ok (.iload_n 1, 1) := by decide +kernel
theorem dX10_play_27 : decode cX10_play 27 = .ok (.iload_n 2, 1) := by decide +kernel
theorem dX10_play_28 : decode cX10_play 28 = .ok (.invokevirtual 309, 3) := by decide +kernel
theorem dX10_play_31 : decode cX10_play 31 = .ok (.aload_n 0, 1) := by decide +kernel
theorem dX10_play_32 : decode cX10_play 32 = .ok (.iload_n 2, 1) := by decide +kernel
theorem dX10_play_33 : decode cX10_play 33 = .ok (.invokevirtual 183, 3) := by decide +kernel
theorem dX10_play_36 : decode cX10_play 36 = .ok (.ireturn, 1) := by decide +kernel
theorem dX10_attempt_0 : decode cX10_attempt 0 = .ok (.aload_n 0, 1) := by decide +kernel
theorem dX10_attempt_1 : decode cX10_attempt 1 = .ok (.iconst 0, 1) := by decide +kernel
theorem dX10_attempt_2 : decode cX10_attempt 2 = .ok (.putfield 147, 3) := by decide +kernel
theorem dX10_attempt_5 : decode cX10_attempt 5 = .ok (.iload_n 1, 1) := by decide +kernel
theorem dX10_attempt_6 : decode cX10_attempt 6 = .ok (.invokestatic 167, 3) := by decide +kernel
theorem dX10_attempt_9 : decode cX10_attempt 9 = .ok (.ifCond .ne 10, 3) := by decide +kernel
theorem dX10_attempt_12 : decode cX10_attempt 12 = .ok (.aload_n 0, 1) := by decide +kernel
theorem dX10_attempt_13 : decode cX10_attempt 13 = .ok (.bipush (-2), 2) := by decide +kernel
theorem dX10_attempt_15 : decode cX10_attempt 15 = .ok (.invokevirtual 173, 3) := by decide +kernel
theorem dX10_attempt_18 : decode cX10_attempt 18 = .ok (.ireturn, 1) := by decide +kernel
theorem dX10_attempt_19 : decode cX10_attempt 19 = .ok (.aload_n 0, 1) := by decide +kernel
theorem dX10_attempt_20 : decode cX10_attempt 20 = .ok (.iload_n 1, 1) := by decide +kernel
theorem dX10_attempt_21 : decode cX10_attempt 21 = .ok (.invokevirtual 282, 3) := by decide +kernel
theorem dX10_attempt_24 : decode cX10_attempt 24 = .ok (.istore_n 2, 1) := by decide +kernel
theorem dX10_attempt_25 : decode cX10_attempt 25 = .ok (.aload_n 0, 1) := by decide +kernel
theorem dX10_attempt_26 : decode cX10_attempt 26 = .ok (.iload_n 1, 1) := by decide +kernel
theorem dX10_attempt_27 : decode cX10_attempt 27 = .ok (.invokevirtual 306, 3) := by decide +kernel
theorem dX10_attempt_30 : decode cX10_attempt 30 = .ok (.istore_n 3, 1) := by decide +kernel
theorem dX10_attempt_31 : decode cX10_attempt 31 = .ok (.aload_n 0, 1) := by decide +kernel
theorem dX10_attempt_32 : decode cX10_attempt 32 = .ok (.iload_n 3, 1) := by decide +kernel
theorem dX10_attempt_33 : decode cX10_attempt 33 = .ok (.putfield 312, 3) := by decide +kernel
theorem dX10_attempt_36 : decode cX10_attempt 36 = .ok (.aload_n 0, 1) := by decide +kernel
theorem dX10_attempt_37 : decode cX10_attempt 37 = .ok (.iload_n 3, 1) := by decide +kernel
theorem dX10_attempt_38 : decode cX10_attempt 38 = .ok (.aload_n 0, 1) := by decide +kernel
theorem dX10_attempt_39 : decode cX10_attempt 39 = .ok (.getfield 300, 3) := by decide +kernel
theorem dX10_attempt_42 : decode cX10_attempt 42 = .ok (.if_icmp .ge 12, 3) := by decide +kernel
theorem dX10_attempt_45 : decode cX10_attempt 45 = .ok (.aload_n 0, 1) := by decide +kernel
theorem dX10_attempt_46 : decode cX10_attempt 46 = .ok (.getfield 61, 3) := by decide +kernel
theorem dX10_attempt_49 : decode cX10_attempt 49 = .ok (.iload_n 3, 1) := by decide +kernel
theorem dX10_attempt_50 : decode cX10_attempt 50 = .ok (.iaload, 1) := by decide +kernel
theorem dX10_attempt_51 : decode cX10_attempt 51 = .ok (.goto 4, 3) := by decide +kernel
theorem dX10_attempt_54 : decode cX10_attempt 54 = .ok (.iconst (-1), 1) := by decide +kernel
theorem dX10_attempt_55 : decode cX10_attempt 55 = .ok (.putfield 67, 3) := by decide +kernel
theorem dX10_attempt_58 : decode cX10_attempt 58 = .ok (.aload_n 0, 1) := by decide +kernel
theorem dX10_attempt_59 : decode cX10_attempt 59 = .ok (.aload_n 0, 1) := by decide +kernel
theorem dX10_attempt_60 : decode cX10_attempt 60 = .ok (.getfield 303, 3) := by decide +kernel
theorem dX10_attempt_63 : decode cX10_attempt 63 = .ok (.putfield 315, 3) := by decide +kernel
theorem dX10_attempt_66 : decode cX10_attempt 66 = .ok (.iload_n 3, 1) := by decide +kernel
theorem dX10_attempt_67 : decode cX10_attempt 67 = .ok (.aload_n 0, 1) := by decide +kernel
theorem dX10_attempt_68 : decode cX10_attempt 68 = .ok (.getfield 300, 3) := by decide +kernel
theorem dX10_attempt_71 : decode cX10_attempt 71 = .ok (.if_icmp .lt 11, 3) := by decide +kernel
theorem dX10_attempt_74 : decode cX10_attempt 74 = .ok (.aload_n 0, 1) := by decide +kernel
theorem dX10_attempt_75 : decode cX10_attempt 75 = .ok (.iload_n 1, 1) := by decide +kernel
theorem dX10_attempt_76 : decode cX10_attempt 76 = .ok (.invokevirtual 279, 3) := by decide +kernel
theorem dX10_attempt_79 : decode cX10_attempt 79 = .ok (.ifCond .ne 15, 3) := by decide +kernel
theorem dX10_attempt_82 : decode cX10_attempt 82 = .ok (.aload_n 0, 1) := by decide +kernel
theorem dX10_attempt_83 : decode cX10_attempt 83 = .ok (.iload_n 1, 1) := by decide +kernel
theorem dX10_attempt_84 : decode cX10_attempt 84 = .ok (.iload_n 2, 1) := by decide +kernel
theorem dX10_attempt_85 : decode cX10_attempt 85 = .ok (.invokevirtual 285, 3) := by decide +kernel
theorem dX10_attempt_88 : decode cX10_attempt 88 = .ok (.aload_n 0, 1) := by decide +kernel
theorem dX10_attempt_89 : decode cX10_attempt 89 = .ok (.iconst 0, 1) := by decide +kernel
theorem dX10_attempt_90 : decode cX10_attempt 90 = .ok (.invokevirtual 183, 3) := by decide +kernel
theorem dX10_attempt_93 : decode cX10_attempt 93 = .ok (.ireturn, 1) := by decide +kernel
theorem dX10_attempt_94 : decode cX10_attempt 94 = .ok (.aload_n 0, 1) := by decide +kernel
theorem dX10_attempt_95 : decode cX10_attempt 95 = .ok (.iload_n 1, 1) := by decide +kernel
theorem dX10_attempt_96 : decode cX10_attempt 96 = .ok (.iload_n 3, 1) := by decide +kernel
theorem dX10_attempt_97 : decode cX10_attempt 97 = .ok (.invokevirtual 309, 3) := by decide +kernel
theorem dX10_attempt_100 : decode cX10_attempt 100 = .ok (.aload_n 0, 1) := by decide +kernel
theorem dX10_attempt_101 : decode cX10_attempt 101 = .ok (.iconst 1, 1) := by decide +kernel
theorem dX10_attempt_102 : decode cX10_attempt 102 = .ok (.invokevirtual 183, 3) := by decide +kernel
theorem dX10_attempt_105 : decode cX10_attempt 105 = .ok (.ireturn, 1) := by decide +kernel
theorem dX10_attempted_0 : decode cX10_attempted 0 = .ok (.iload_n 1, 1) := by decide +kernel
theorem dX10_attempted_1 : decode cX10_attempted 1 = .ok (.i2l, 1) := by decide +kernel
theorem dX10_attempted_2 : decode cX10_attempted 2 = .ok (.lconst 0, 1) := by decide +kernel
theorem dX10_attempted_3 : decode cX10_attempted 3 = .ok (.ldc2_w 150, 3) := by decide +kernel
theorem dX10_attempted_6 : decode cX10_attempted 6 = .ok (.invokestatic 152, 3) := by decide +kernel
theorem dX10_attempted_9 : decode cX10_attempted 9 = .ok (.ifCond .ne 12, 3) := by decide +kernel
theorem dX10_attempted_12 : decode cX10_attempted 12 = .ok (.aload_n 0, 1) := by decide +kernel
theorem dX10_attempted_13 : decode cX10_attempted 13 = .ok (.bipush (-2), 2) := by decide +kernel
theorem dX10_attempted_15 : decode cX10_attempted 15 = .ok (.invokevirtual 173, 3) := by decide +kernel
theorem dX10_attempted_18 : decode cX10_attempted 18 = .ok (.goto 34, 3) := by decide +kernel
theorem dX10_attempted_21 : decode cX10_attempted 21 = .ok (.aload_n 0, 1) := by decide +kernel
theorem dX10_attempted_22 : decode cX10_attempted 22 = .ok (.iload_n 1, 1) := by decide +kernel
theorem dX10_attempted_23 : decode cX10_attempted 23 = .ok (.ifCond .ne 10, 3) := by decide +kernel
theorem dX10_attempted_26 : decode cX10_attempted 26 = .ok (.aload_n 0, 1) := by decide +kernel
theorem dX10_attempted_27 : decode cX10_attempted 27 = .ok (.getfield 312, 3) := by decide +kernel
theorem dX10_attempted_30 : decode cX10_attempted 30 = .ok (.goto 19, 3) := by decide +kernel
theorem dX10_attempted_33 : decode cX10_attempted 33 = .ok (.iload_n 1, 1) := by decide +kernel
theorem dX10_attempted_34 : decode cX10_attempted 34 = .ok (.iconst 1, 1) := by decide +kernel
theorem dX10_attempted_35 : decode cX10_attempted 35 = .ok (.if_icmp .ne 10, 3) := by decide +kernel
theorem dX10_attempted_38 : decode cX10_attempted 38 = .ok (.aload_n 0, 1) := by decide +kernel
theorem dX10_attempted_39 : decode cX10_attempted 39 = .ok (.getfield 67, 3) := by decide +kernel
theorem dX10_attempted_42 : decode cX10_attempted 42 = .ok (.goto 7, 3) := by decide +kernel
theorem dX10_attempted_45 : decode cX10_attempted 45 = .ok (.aload_n 0, 1) := by decide +kernel
theorem dX10_attempted_46 : decode cX10_attempted 46 = .ok (.getfield 315, 3) := by decide +kernel
theorem dX10_attempted_49 : decode cX10_attempted 49 = .ok (.invokevirtual 183, 3) := by decide +kernel
theorem dX10_attempted_52 : decode cX10_attempted 52 = .ok (.ireturn, 1) := by decide +kernel
theorem dX10_back_0 : decode cX10_back 0 = .ok (.iload_n 1, 1) := by decide +kernel
theorem dX10_back_1 : decode cX10_back 1 = .ok (.invokestatic 167, 3) := by decide +kernel
theorem dX10_back_4 : decode cX10_back 4 = .ok (.ifCond .eq 12, 3) := by decide +kernel
theorem dX10_back_7 : decode cX10_back 7 = .ok (.aload_n 0, 1) := by decide +kernel
theorem dX10_back_8 : decode cX10_back 8 = .ok (.getfield 46, 3) := by decide +kernel
theorem dX10_back_11 : decode cX10_back 11 = .ok (.iload_n 1, 1) := by decide +kernel
theorem dX10_back_12 : decode cX10_back 12 = .ok (.iaload, 1) := by decide +kernel
theorem dX10_back_13 : decode cX10_back 13 = .ok (.ifCond .ne 22, 3) := by decide +kernel
theorem dX10_back_16 : decode cX10_back 16 = .ok (.aload_n 0, 1) := by decide +kernel
theorem dX10_back_17 : decode cX10_back 17 = .ok (.iload_n 1, 1) := by decide +kernel
theorem dX10_back_18 : decode cX10_back 18 = .ok (.invokestatic 167, 3) := by decide +kernel
theorem dX10_back_21 : decode cX10_back 21 = .ok (.ifCond .eq 8, 3) := by decide +kernel
theorem dX10_back_24 : decode cX10_back 24 = .ok (.bipush (-4), 2) := by decide +kernel
theorem dX10_back_26 : decode cX10_back 26 = .ok (.goto 5, 3) := by decide +kernel
theorem dX10_back_29 : decode cX10_back 29 = .ok (.bipush (-2), 2) := by decide +kernel
theorem dX10_back_31 : decode cX10_back 31 = .ok (.invokevirtual 173, 3) := by decide +kernel
theorem dX10_back_34 : decode cX10_back 34 = .ok (.ireturn, 1) := by decide +kernel
theorem dX10_back_35 : decode cX10_back 35 = .ok (.aload_n 0, 1) := by decide +kernel
theorem dX10_back_36 : decode cX10_back 36 = .ok (.getfield 46, 3) := by decide +kernel
theorem dX10_back_39 : decode cX10_back 39 = .ok (.iload_n 1, 1) := by decide +kernel
theorem dX10_back_40 : decode cX10_back 40 = .ok (.dup2, 1) := by decide +kernel
theorem dX10_back_41 : decode cX10_back 41 = .ok (.iaload, 1) := by decide +kernel
theorem dX10_back_42 : decode cX10_back 42 = .ok (.iconst 1, 1) := by decide +kernel
theorem dX10_back_43 : decode cX10_back 43 = .ok (.isub, 1) := by decide +kernel
theorem dX10_back_44 : decode cX10_back 44 = .ok (.iastore, 1) := by decide +kernel
theorem dX10_back_45 : decode cX10_back 45 = .ok (.aload_n 0, 1) := by decide +kernel
theorem dX10_back_46 : decode cX10_back 46 = .ok (.getfield 49, 3) := by decide +kernel
theorem dX10_back_49 : decode cX10_back 49 = .ok (.bipush 30, 2) := by decide +kernel
theorem dX10_back_51 : decode cX10_back 51 = .ok (.iload_n 1, 1) := by decide +kernel
theorem dX10_back_52 : decode cX10_back 52 = .ok (.imul, 1) := by decide +kernel
theorem dX10_back_53 : decode cX10_back 53 = .ok (.aload_n 0, 1) := by decide +kernel
theorem dX10_back_54 : decode cX10_back 54 = .ok (.getfield 46, 3) := by decide +kernel
theorem dX10_back_57 : decode cX10_back 57 = .ok (.iload_n 1, 1) := by decide +kernel
theorem dX10_back_58 : decode cX10_back 58 = .ok (.iaload, 1) := by decide +kernel
theorem dX10_back_59 : decode cX10_back 59 = .ok (.iadd, 1) := by decide +kernel
theorem dX10_back_60 : decode cX10_back 60 = .ok (.iaload, 1) := by decide +kernel
theorem dX10_back_61 : decode cX10_back 61 = .ok (.istore_n 2, 1) := by decide +kernel
theorem dX10_back_62 : decode cX10_back 62 = .ok (.aload_n 0, 1) := by decide +kernel
theorem dX10_back_63 : decode cX10_back 63 = .ok (.iload_n 1, 1) := by decide +kernel
theorem dX10_back_64 : decode cX10_back 64 = .ok (.iload_n 2, 1) := by decide +kernel
theorem dX10_back_65 : decode cX10_back 65 = .ok (.invokevirtual 285, 3) := by decide +kernel
theorem dX10_back_68 : decode cX10_back 68 = .ok (.aload_n 0, 1) := by decide +kernel
theorem dX10_back_69 : decode cX10_back 69 = .ok (.iload_n 2, 1) := by decide +kernel
theorem dX10_back_70 : decode cX10_back 70 = .ok (.invokevirtual 183, 3) := by decide +kernel
theorem dX10_back_73 : decode cX10_back 73 = .ok (.ireturn, 1) := by decide +kernel
theorem dX10_come_0 : decode cX10_come 0 = .ok (.aload_n 0, 1) := by decide +kernel
theorem dX10_come_1 : decode cX10_come 1 = .ok (.getfield 74, 3) := by decide +kernel
theorem dX10_come_4 : decode cX10_come 4 = .ok (.iload_n 1, 1) := by decide +kernel
theorem dX10_come_5 : decode cX10_come 5 = .ok (.iaload, 1) := by decide +kernel
theorem dX10_come_6 : decode cX10_come 6 = .ok (.iconst (-1), 1) := by decide +kernel
theorem dX10_come_7 : decode cX10_come 7 = .ok (.if_icmp .ne 113, 3) := by decide +kernel
theorem dX10_come_10 : decode cX10_come 10 = .ok (.aload_n 0, 1) := by decide +kernel
theorem dX10_come_11 : decode cX10_come 11 = .ok (.getfield 74, 3) := by decide +kernel
theorem dX10_come_14 : decode cX10_come 14 = .ok (.iload_n 1, 1) := by decide +kernel
theorem dX10_come_15 : decode cX10_come 15 = .ok (.iload_n 2, 1) := by decide +kernel
theorem dX10_come_16 : decode cX10_come 16 = .ok (.iastore, 1) := by decide +kernel
theorem dX10_come_17 : decode cX10_come 17 = .ok (.aload_n 0, 1) := by decide +kernel
theorem dX10_come_18 : decode cX10_come 18 = .ok (.getfield 77, 3) := by decide +kernel
theorem dX10_come_21 : decode cX10_come 21 = .ok (.iload_n 1, 1) := by decide +kernel
theorem dX10_come_22 : decode cX10_come 22 = .ok (.aload_n 0, 1) := by decide +kernel
theorem dX10_come_23 : decode cX10_come 23 = .ok (.getfield 318, 3) := by decide +kernel
theorem dX10_come_26 : decode cX10_come 26 = .ok (.iastore, 1) := by decide +kernel
theorem dX10_come_27 : decode cX10_come 27 = .ok (.aload_n 0, 1) := by decide +kernel
theorem dX10_come_28 : decode cX10_come 28 = .ok (.getfield 71, 3) := by decide +kernel
theorem dX10_come_31 : decode cX10_come 31 = .ok (.aload_n 0, 1) := by decide +kernel
theorem dX10_come_32 : decode cX10_come 32 = .ok (.getfield 318, 3) := by decide +kernel
theorem dX10_come_35 : decode cX10_come 35 = .ok (.iload_n 1, 1) := by decide +kernel
theorem dX10_come_36 : decode cX10_come 36 = .ok (.iastore, 1) := by decide +kernel
theorem dX10_come_37 : decode cX10_come 37 = .ok (.aload_n 0, 1) := by decide +kernel
theorem dX10_come_38 : decode cX10_come 38 = .ok (.getfield 84, 3) := by decide +kernel
theorem dX10_come_41 : decode cX10_come 41 = .ok (.aload_n 0, 1) := by decide +kernel
theorem dX10_come_42 : decode cX10_come 42 = .ok (.getfield 318, 3) := by decide +kernel
theorem dX10_come_45 : decode cX10_come 45 = .ok (.iload_n 3, 1) := by decide +kernel
theorem dX10_come_46 : decode cX10_come 46 = .ok (.iastore, 1) := by decide +kernel
theorem dX10_come_47 : decode cX10_come 47 = .ok (.aload_n 0, 1) := by decide +kernel
theorem dX10_come_48 : decode cX10_come 48 = .ok (.getfield 87, 3) := by decide +kernel
theorem dX10_come_51 : decode cX10_come 51 = .ok (.aload_n 0, 1) := by decide +kernel
theorem dX10_come_52 : decode cX10_come 52 = .ok (.getfield 318, 3) := by decide +kernel
theorem dX10_come_55 : decode cX10_come 55 = .ok (.iload 4, 2) := by decide +kernel
theorem dX10_come_57 : decode cX10_come 57 = .ok (.iastore, 1) := by decide +kernel
theorem dX10_come_58 : decode cX10_come 58 = .ok (.aload_n 0, 1) := by decide +kernel
theorem dX10_come_59 : decode cX10_come 59 = .ok (.getfield 80, 3) := by decide +kernel
theorem dX10_come_62 : decode cX10_come 62 = .ok (.aload_n 0, 1) := by decide +kernel
theorem dX10_come_63 : decode cX10_come 63 = .ok (.getfield 318, 3) := by decide +kernel
theorem dX10_come_66 : decode cX10_come 66 = .ok (.aload_n 0, 1) := by decide +kernel
theorem dX10_come_67 : decode cX10_come 67 = .ok (.aload_n 0, 1) := by decide +kernel
theorem dX10_come_68 : decode cX10_come 68 = .ok (.getfield 164, 3) := by decide +kernel
theorem dX10_come_71 : decode cX10_come 71 = .ok (.invokevirtual 279, 3) := by decide +kernel
theorem dX10_come_74 : decode cX10_come 74 = .ok (.bastore, 1) := by decide +kernel
theorem dX10_come_75 : decode cX10_come 75 = .ok (.aload_n 0, 1) := by decide +kernel
theorem dX10_come_76 : decode cX10_come 76 = .ok (.aload_n 0, 1) := by decide +kernel
theorem dX10_come_77 : decode cX10_come 77 = .ok (.getfield 80, 3) := by decide +kernel
theorem dX10_come_80 : decode cX10_come 80 = .ok (.aload_n 0, 1) := by decide +kernel
theorem dX10_come_81 : decode cX10_come 81 = .ok (.getfield 318, 3) := by decide +kernel
theorem dX10_come_84 : decode cX10_come 84 = .ok (.baload, 1) := by decide +kernel
theorem dX10_come_85 : decode cX10_come 85 = .ok (.ifCond .eq 18, 3) := by decide +kernel
theorem dX10_come_88 : decode cX10_come 88 = .ok (.aload_n 0, 1) := by decide +kernel
theorem dX10_come_89 : decode cX10_come 89 = .ok (.getfield 248, 3) := by decide +kernel
theorem dX10_come_92 : decode cX10_come 92 = .ok (.iconst (-1), 1) := by decide +kernel
theorem dX10_come_93 : decode cX10_come 93 = .ok (.if_icmp .ne 10, 3) := by decide +kernel
theorem dX10_come_96 : decode cX10_come 96 = .ok (.aload_n 0, 1) := by decide +kernel
theorem dX10_come_97 : decode cX10_come 97 = .ok (.getfield 318, 3) := by decide +kernel
theorem dX10_come_100 : decode cX10_come 100 = .ok (.goto 7, 3) := by decide +kernel
theorem dX10_come_103 : decode cX10_come 103 = .ok (.aload_n 0, 1) := by decide +kernel
theorem dX10_come_104 : decode cX10_come 104 = .ok (.getfield 248, 3) := by decide +kernel
theorem dX10_come_107 : decode cX10_come 107 = .ok (.putfield 248, 3) := by decide +kernel
theorem dX10_come_110 : decode cX10_come 110 = .ok (.aload_n 0, 1) := by decide +kernel
theorem dX10_come_111 : decode cX10_come 111 = .ok (.dup, 1) := by decide +kernel
theorem dX10_come_112 : decode cX10_come 112 = .ok (.getfield 318, 3) := by decide +kernel
theorem dX10_come_115 : decode cX10_come 115 = .ok (.iconst 1, 1) := by decide +kernel
theorem dX10_come_116 : decode cX10_come 116 = .ok (.iadd, 1) := by decide +kernel
theorem dX10_come_117 : decode cX10_come 117 = .ok (.putfield 318, 3) := by decide +kernel
theorem dX10_come_120 : decode cX10_come 120 = .ok (.aload_n 0, 1) := by decide +kernel
theorem dX10_come_121 : decode cX10_come 121 = .ok (.getfield 77, 3) := by decide +kernel
theorem dX10_come_124 : decode cX10_come 124 = .ok (.iload_n 1, 1) := by decide +kernel
theorem dX10_come_125 : decode cX10_come 125 = .ok (.iaload, 1) := by decide +kernel
theorem dX10_come_126 : decode cX10_come 126 = .ok (.ireturn, 1) := by decide +kernel
theorem dX10_begin_0 : decode cX10_begin 0 = .ok (.aload_n 0, 1) := by decide +kernel
theorem dX10_begin_1 : decode cX10_begin 1 = .ok (.iconst 1, 1) := by decide +kernel
theorem dX10_begin_2 : decode cX10_begin 2 = .ok (.putfield 161, 3) := by decide +kernel
theorem dX10_begin_5 : decode cX10_begin 5 = .ok (.aload_n 0, 1) := by decide +kernel
theorem dX10_begin_6 : decode cX10_begin 6 = .ok (.iconst 0, 1) := by decide +kernel
theorem dX10_begin_7 : decode cX10_begin 7 = .ok (.putfield 158, 3) := by decide +kernel
theorem dX10_begin_10 : decode cX10_begin 10 = .ok (.aload_n 0, 1) := by decide +kernel
theorem dX10_begin_11 : decode cX10_begin 11 = .ok (.iload_n 1, 1) := by decide +kernel
theorem dX10_begin_12 : decode cX10_begin 12 = .ok (.putfield 164, 3) := by decide +kernel
theorem dX10_begin_15 : decode cX10_begin 15 = .ok (.aload_n 0, 1) := by decide +kernel
theorem dX10_begin_16 : decode cX10_begin 16 = .ok (.iconst 0, 1) := by decide +kernel
theorem dX10_begin_17 : decode cX10_begin 17 = .ok (.putfield 318, 3) := by decide +kernel
theorem dX10_begin_20 : decode cX10_begin 20 = .ok (.aload_n 0, 1) := by decide +kernel
theorem dX10_begin_21 : decode cX10_begin 21 = .ok (.iconst 0, 1) := by decide +kernel
theorem dX10_begin_22 : decode cX10_begin 22 = .ok (.putfield 321, 3) := by decide +kernel
theorem dX10_begin_25 : decode cX10_begin 25 = .ok (.aload_n 0, 1) := by decide +kernel
theorem dX10_begin_26 : decode cX10_begin 26 = .ok (.iconst (-1), 1) := by decide +kernel
theorem dX10_begin_27 : decode cX10_begin 27 = .ok (.putfield 248, 3) := by decide +kernel
theorem dX10_begin_30 : decode cX10_begin 30 = .ok (.aload_n 0, 1) := by decide +kernel
theorem dX10_begin_31 : decode cX10_begin 31 = .ok (.iconst 0, 1) := by decide +kernel
theorem dX10_begin_32 : decode cX10_begin 32 = .ok (.putfield 324, 3) := by decide +kernel
theorem dX10_begin_35 : decode cX10_begin 35 = .ok (.iconst 0, 1) := by decide +kernel
theorem dX10_begin_36 : decode cX10_begin 36 = .ok (.istore_n 2, 1) := by decide +kernel
theorem dX10_begin_37 : decode cX10_begin 37 = .ok (.iload_n 2, 1) := by decide +kernel
theorem dX10_begin_38 : decode cX10_begin 38 = .ok (.sipush 1024, 3) := by decide +kernel
theorem dX10_begin_41 : decode cX10_begin 41 = .ok (.if_icmp .ge 16, 3) := by decide +kernel
theorem dX10_begin_44 : decode cX10_begin 44 = .ok (.aload_n 0, 1) := by decide +kernel
theorem dX10_begin_45 : decode cX10_begin 45 = .ok (.getfield 74, 3) := by decide +kernel
theorem dX10_begin_48 : decode cX10_begin 48 = .ok (.iload_n 2, 1) := by decide +kernel
theorem dX10_begin_49 : decode cX10_begin 49 = .ok (.iconst (-1), 1) := by decide +kernel
theorem dX10_begin_50 : decode cX10_begin 50 = .ok (.iastore, 1) := by decide +kernel
theorem dX10_begin_51 : decode cX10_begin 51 = .ok (.iinc 2 1, 3) := by decide +kernel
theorem dX10_begin_54 : decode cX10_begin 54 = .ok (.goto (-17), 3) := by decide +kernel
theorem dX10_begin_57 : decode cX10_begin 57 = .ok (.aload_n 0, 1) := by decide +kernel
theorem dX10_begin_58 : decode cX10_begin 58 = .ok (.iconst 1, 1) := by decide +kernel
theorem dX10_begin_59 : decode cX10_begin 59 = .ok (.putfield 134, 3) := by decide +kernel
theorem dX10_begin_62 : decode cX10_begin 62 = .ok (.aload_n 0, 1) := by decide +kernel
theorem dX10_begin_63 : decode cX10_begin 63 = .ok (.aload_n 0, 1) := by decide +kernel
theorem dX10_begin_64 : decode cX10_begin 64 = .ok (.iload_n 1, 1) := by decide +kernel
theorem dX10_begin_65 : decode cX10_begin 65 = .ok (.invokevirtual 282, 3) := by decide +kernel
theorem dX10_begin_68 : decode cX10_begin 68 = .ok (.iconst 0, 1) := by decide +kernel
theorem dX10_begin_69 : decode cX10_begin 69 = .ok (.iconst (-1), 1) := by decide +kernel
theorem dX10_begin_70 : decode cX10_begin 70 = .ok (.iconst (-1), 1) := by decide +kernel
theorem dX10_begin_71 : decode cX10_begin 71 = .ok (.invokevirtual 327, 3) := by decide +kernel
theorem dX10_begin_74 : decode cX10_begin 74 = .ok (.istore_n 2, 1) := by decide +kernel
theorem dX10_begin_75 : decode cX10_begin 75 = .ok (.aload_n 0, 1) := by decide +kernel
theorem dX10_begin_76 : decode cX10_begin 76 = .ok (.iconst 0, 1) := by decide +kernel
theorem dX10_begin_77 : decode cX10_begin 77 = .ok (.putfield 134, 3) := by decide +kernel
theorem dX10_begin_80 : decode cX10_begin 80 = .ok (.return_, 1) := by decide +kernel
theorem dX10_goesOn_0 : decode cX10_goesOn 0 = .ok (.aload_n 0, 1) := by decide +kernel
theorem dX10_goesOn_1 : decode cX10_goesOn 1 = .ok (.getfield 164, 3) := by decide +kernel
theorem dX10_goesOn_4 : decode cX10_goesOn 4 = .ok (.istore_n 2, 1) := by decide +kernel
theorem dX10_goesOn_5 : decode cX10_goesOn 5 = .ok (.aload_n 0, 1) := by decide +kernel
theorem dX10_goesOn_6 : decode cX10_goesOn 6 = .ok (.iload_n 2, 1) := by decide +kernel
theorem dX10_goesOn_7 : decode cX10_goesOn 7 = .ok (.invokevirtual 282, 3) := by decide +kernel
theorem dX10_goesOn_10 : decode cX10_goesOn 10 = .ok (.istore_n 3, 1) := by decide +kernel
theorem dX10_goesOn_11 : decode cX10_goesOn 11 = .ok (.aload_n 0, 1) := by decide +kernel
theorem dX10_goesOn_12 : decode cX10_goesOn 12 = .ok (.iconst 1, 1) := by decide +kernel
theorem dX10_goesOn_13 : decode cX10_goesOn 13 = .ok (.putfield 134, 3) := by decide +kernel
theorem dX10_goesOn_16 : decode cX10_goesOn 16 = .ok (.iload_n 1, 1) := by decide +kernel
theorem dX10_goesOn_17 : decode cX10_goesOn 17 = .ok (.istore 4, 2) := by decide +kernel
theorem dX10_goesOn_19 : decode cX10_goesOn 19 = .ok (.iload 4, 2) := by decide +kernel
theorem dX10_goesOn_21 : decode cX10_goesOn 21 = .ok (.ifCond .le 127, 3) := by decide +kernel
theorem dX10_goesOn_24 : decode cX10_goesOn 24 = .ok (.aload_n 0, 1) := by decide +kernel
theorem dX10_goesOn_25 : decode cX10_goesOn 25 = .ok (.getfield 321, 3) := by decide +kernel
theorem dX10_goesOn_28 : decode cX10_goesOn 28 = .ok (.aload_n 0, 1) := by decide +kernel
theorem dX10_goesOn_29 : decode cX10_goesOn 29 = .ok (.getfield 318, 3) := by decide +kernel
theorem dX10_goesOn_32 : decode cX10_goesOn 32 = .ok (.if_icmp .ge 116, 3) := by decide +kernel
theorem dX10_goesOn_35 : decode cX10_goesOn 35 = .ok (.aload_n 0, 1) := by decide +kernel
theorem dX10_goesOn_36 : decode cX10_goesOn 36 = .ok (.getfield 71, 3) := by decide +kernel
theorem dX10_goesOn_39 : decode cX10_goesOn 39 = .ok (.aload_n 0, 1) := by decide +kernel
theorem dX10_goesOn_40 : decode cX10_goesOn 40 = .ok (.getfield 321, 3) := by decide +kernel
theorem dX10_goesOn_43 : decode cX10_goesOn 43 = .ok (.iaload, 1) := by decide +kernel
theorem dX10_goesOn_44 : decode cX10_goesOn 44 = .ok (.istore 5, 2) := by decide +kernel
theorem dX10_goesOn_46 : decode cX10_goesOn 46 = .ok (.iconst 0, 1) := by decide +kernel
theorem dX10_goesOn_47 : decode cX10_goesOn 47 = .ok (.istore 6, 2) := by decide +kernel
theorem dX10_goesOn_49 : decode cX10_goesOn 49 = .ok (.iload 6, 2) := by decide +kernel
theorem dX10_goesOn_51 : decode cX10_goesOn 51 = .ok (.bipush 38, 2) := by decide +kernel
theorem dX10_goesOn_53 : decode cX10_goesOn 53 = .ok (.if_icmp .ge 79, 3) := by decide +kernel
theorem dX10_goesOn_56 : decode cX10_goesOn 56 = .ok (.aload_n 0, 1) := by decide +kernel
theorem dX10_goesOn_57 : decode cX10_goesOn 57 = .ok (.iload_n 2, 1) := by decide +kernel
theorem dX10_goesOn_58 : decode cX10_goesOn 58 = .ok (.iload 5, 2) := by decide +kernel
theorem dX10_goesOn_60 : decode cX10_goesOn 60 = .ok (.invokevirtual 285, 3) := by decide +kernel
theorem dX10_goesOn_63 : decode cX10_goesOn 63 = .ok (.iconst (-1), 1) := by decide +kernel
theorem dX10_goesOn_64 : decode cX10_goesOn 64 = .ok (.istore 7, 2) := by decide +kernel
theorem dX10_goesOn_66 : decode cX10_goesOn 66 = .ok (.aload_n 0, 1) := by decide +kernel
theorem dX10_goesOn_67 : decode cX10_goesOn 67 = .ok (.iload_n 2, 1) := by decide +kernel
theorem dX10_goesOn_68 : decode cX10_goesOn 68 = .ok (.iload 6, 2) := by decide +kernel
theorem dX10_goesOn_70 : decode cX10_goesOn 70 = .ok (.invokevirtual 276, 3) := by decide +kernel
theorem dX10_goesOn_73 : decode cX10_goesOn 73 = .ok (.ifCond .eq 36, 3) := by decide +kernel
theorem dX10_goesOn_76 : decode cX10_goesOn 76 = .ok (.aload_n 0, 1) := by decide +kernel
theorem dX10_goesOn_77 : decode cX10_goesOn 77 = .ok (.iload_n 2, 1) := by decide +kernel
theorem dX10_goesOn_78 : decode cX10_goesOn 78 = .ok (.iload 6, 2) := by decide +kernel
theorem dX10_goesOn_80 : decode cX10_goesOn 80 = .ok (.invokevirtual 297, 3) := by decide +kernel
theorem dX10_goesOn_83 : decode cX10_goesOn 83 = .ok (.aload_n 0, 1) := by decide +kernel
theorem dX10_goesOn_84 : decode cX10_goesOn 84 = .ok (.aload_n 0, 1) := by decide +kernel
theorem dX10_goesOn_85 : decode cX10_goesOn 85 = .ok (.iload_n 2, 1) := by decide +kernel
theorem dX10_goesOn_86 : decode cX10_goesOn 86 = .ok (.invokevirtual 282, 3) := by decide +kernel
theorem dX10_goesOn_89 : decode cX10_goesOn 89 = .ok (.aload_n 0, 1) := by decide +kernel
theorem dX10_goesOn_90 : decode cX10_goesOn 90 = .ok (.getfield 74, 3) := by decide +kernel
theorem dX10_goesOn_93 : decode cX10_goesOn 93 = .ok (.iload 5, 2) := by decide +kernel
theorem dX10_goesOn_95 : decode cX10_goesOn 95 = .ok (.iaload, 1) := by decide +kernel
theorem dX10_goesOn_96 : decode cX10_goesOn 96 = .ok (.iconst 1, 1) := by decide +kernel
theorem dX10_goesOn_97 : decode cX10_goesOn 97 = .ok (.iadd, 1) := by decide +kernel
theorem dX10_goesOn_98 : decode cX10_goesOn 98 = .ok (.aload_n 0, 1) := by decide +kernel
theorem dX10_goesOn_99 : decode cX10_goesOn 99 = .ok (.getfield 321, 3) := by decide +kernel
theorem dX10_goesOn_102 : decode cX10_goesOn 102 = .ok (.iload 6, 2) := by decide +kernel
theorem dX10_goesOn_104 : decode cX10_goesOn 104 = .ok (.invokevirtual 327, 3) := by decide +kernel
theorem dX10_goesOn_107 : decode cX10_goesOn 107 = .ok (.istore 7, 2) := by decide +kernel
theorem dX10_goesOn_109 : decode cX10_goesOn 109 = .ok (.aload_n 0, 1) := by decide +kernel
theorem dX10_goesOn_110 : decode cX10_goesOn 110 = .ok (.getfield 91, 3) := by decide +kernel
theorem dX10_goesOn_113 : decode cX10_goesOn 113 = .ok (.bipush 38, 2) := by decide +kernel
theorem dX10_goesOn_115 : decode cX10_goesOn 115 = .ok (.aload_n 0, 1) := by decide +kernel
theorem dX10_goesOn_116 : decode cX10_goesOn 116 = .ok (.getfield 321, 3) := by decide +kernel
theorem dX10_goesOn_119 : decode cX10_goesOn 119 = .ok (.imul, 1) := by decide +kernel
theorem dX10_goesOn_120 : decode cX10_goesOn 120 = .ok (.iload 6, 2) := by decide +kernel
theorem dX10_goesOn_122 : decode cX10_goesOn 122 = .ok (.iadd, 1) := by decide +kernel
theorem dX10_goesOn_123 : decode cX10_goesOn 123 = .ok (.iload 7, 2) := by decide +kernel
theorem dX10_goesOn_125 : decode cX10_goesOn 125 = .ok (.iastore, 1) := by decide +kernel
theorem dX10_goesOn_126 : decode cX10_goesOn 126 = .ok (.iinc 6 1, 3) := by decide +kernel
theorem dX10_goesOn_129 : decode cX10_goesOn 129 = .ok (.goto (-80), 3) := by decide +kernel
theorem dX10_goesOn_132 : decode cX10_goesOn 132 = .ok (.aload_n 0, 1) := by decide +kernel
theorem dX10_goesOn_133 : decode cX10_goesOn 133 = .ok (.dup, 1) := by decide +kernel
theorem dX10_goesOn_134 : decode cX10_goesOn 134 = .ok (.getfield 321, 3) := by decide +kernel
theorem dX10_goesOn_137 : decode cX10_goesOn 137 = .ok (.iconst 1, 1) := by decide +kernel
theorem dX10_goesOn_138 : decode cX10_goesOn 138 = .ok (.iadd, 1) := by decide +kernel
theorem dX10_goesOn_139 : decode cX10_goesOn 139 = .ok (.putfield 321, 3) := by decide +kernel
theorem dX10_goesOn_142 : decode cX10_goesOn 142 = .ok (.iinc 4 (-1), 3) := by decide +kernel
theorem dX10_goesOn_145 : decode cX10_goesOn 145 = .ok (.goto (-126), 3) := by decide +kernel
theorem dX10_goesOn_148 : decode cX10_goesOn 148 = .ok (.aload_n 0, 1) := by decide +kernel
theorem dX10_goesOn_149 : decode cX10_goesOn 149 = .ok (.iconst 0, 1) := by decide +kernel
theorem dX10_goesOn_150 : decode cX10_goesOn 150 = .ok (.putfield 134, 3) := by decide +kernel
theorem dX10_goesOn_153 : decode cX10_goesOn 153 = .ok (.aload_n 0, 1) := by decide +kernel
theorem dX10_goesOn_154 : decode cX10_goesOn 154 = .ok (.iload_n 2, 1) := by decide +kernel
theorem dX10_goesOn_155 : decode cX10_goesOn 155 = .ok (.iload_n 3, 1) := by decide +kernel
theorem dX10_goesOn_156 : decode cX10_goesOn 156 = .ok (.invokevirtual 285, 3) := by decide +kernel
theorem dX10_goesOn_159 : decode cX10_goesOn 159 = .ok (.aload_n 0, 1) := by decide +kernel
theorem dX10_goesOn_160 : decode cX10_goesOn 160 = .ok (.iconst 0, 1) := by decide +kernel
theorem dX10_goesOn_161 : decode cX10_goesOn 161 = .ok (.putfield 324, 3) := by decide +kernel
theorem dX10_goesOn_164 : decode cX10_goesOn 164 = .ok (.return_, 1) := by decide +kernel
theorem dX10_isWhole_0 : decode cX10_isWhole 0 = .ok (.aload_n 0, 1) := by decide +kernel
theorem dX10_isWhole_1 : decode cX10_isWhole 1 = .ok (.getfield 321, 3) := by decide +kernel
theorem dX10_isWhole_4 : decode cX10_isWhole 4 = .ok (.aload_n 0, 1) := by decide +kernel
theorem dX10_isWhole_5 : decode cX10_isWhole 5 = .ok (.getfield 318, 3) := by decide +kernel
theorem dX10_isWhole_8 : decode cX10_isWhole 8 = .ok (.if_icmp .ne 7, 3) := by decide +kernel
theorem dX10_isWhole_11 : decode cX10_isWhole 11 = .ok (.iconst 1, 1) := by decide +kernel
theorem dX10_isWhole_12 : decode cX10_isWhole 12 = .ok (.goto 4, 3) := by decide +kernel
theorem dX10_isWhole_15 : decode cX10_isWhole 15 = .ok (.iconst 0, 1) := by decide +kernel
theorem dX10_isWhole_16 : decode cX10_isWhole 16 = .ok (.ireturn, 1) := by decide +kernel
theorem dX10_search_0 : decode cX10_search 0 = .ok (.iload_n 1, 1) := by decide +kernel
theorem dX10_search_1 : decode cX10_search 1 = .ok (.invokestatic 167, 3) := by decide +kernel
theorem dX10_search_4 : decode cX10_search 4 = .ok (.ifCond .eq 15, 3) := by decide +kernel
theorem dX10_search_7 : decode cX10_search 7 = .ok (.iload_n 2, 1) := by decide +kernel
theorem dX10_search_8 : decode cX10_search 8 = .ok (.i2l, 1) := by decide +kernel
theorem dX10_search_9 : decode cX10_search 9 = .ok (.lconst 1, 1) := by decide +kernel
theorem dX10_search_10 : decode cX10_search 10 = .ok (.ldc2_w 330, 3) := by decide +kernel
theorem dX10_search_13 : decode cX10_search 13 = .ok (.invokestatic 152, 3) := by decide +kernel
theorem dX10_search_16 : decode cX10_search 16 = .ok (.ifCond .ne 22, 3) := by decide +kernel
theorem dX10_search_19 : decode cX10_search 19 = .ok (.aload_n 0, 1) := by decide +kernel
theorem dX10_search_20 : decode cX10_search 20 = .ok (.iload_n 1, 1) := by decide +kernel
theorem dX10_search_21 : decode cX10_search 21 = .ok (.invokestatic 167, 3) := by decide +kernel
theorem dX10_search_24 : decode cX10_search 24 = .ok (.ifCond .eq 8, 3) := by decide +kernel
theorem dX10_search_27 : decode cX10_search 27 = .ok (.bipush (-3), 2) := by decide +kernel
theorem dX10_search_29 : decode cX10_search 29 = .ok (.goto 5, 3) := by decide +kernel
theorem dX10_search_32 : decode cX10_search 32 = .ok (.bipush (-2), 2) := by decide +kernel
theorem dX10_search_34 : decode cX10_search 34 = .ok (.invokevirtual 173, 3) := by decide +kernel
theorem dX10_search_37 : decode cX10_search 37 = .ok (.ireturn, 1) := by decide +kernel
theorem dX10_search_38 : decode cX10_search 38 = .ok (.aload_n 0, 1) := by decide +kernel
theorem dX10_search_39 : decode cX10_search 39 = .ok (.iload_n 1, 1) := by decide +kernel
theorem dX10_search_40 : decode cX10_search 40 = .ok (.invokevirtual 242, 3) := by decide +kernel
theorem dX10_search_43 : decode cX10_search 43 = .ok (.aload_n 0, 1) := by decide +kernel
theorem dX10_search_44 : decode cX10_search 44 = .ok (.iload_n 2, 1) := by decide +kernel
theorem dX10_search_45 : decode cX10_search 45 = .ok (.invokevirtual 245, 3) := by decide +kernel
theorem dX10_search_48 : decode cX10_search 48 = .ok (.aload_n 0, 1) := by decide +kernel
theorem dX10_search_49 : decode cX10_search 49 = .ok (.aload_n 0, 1) := by decide +kernel
theorem dX10_search_50 : decode cX10_search 50 = .ok (.invokevirtual 332, 3) := by decide +kernel
theorem dX10_search_53 : decode cX10_search 53 = .ok (.ifCond .eq 7, 3) := by decide +kernel
theorem dX10_search_56 : decode cX10_search 56 = .ok (.iconst 1, 1) := by decide +kernel
theorem dX10_search_57 : decode cX10_search 57 = .ok (.goto 4, 3) := by decide +kernel
theorem dX10_search_60 : decode cX10_search 60 = .ok (.iconst 0, 1) := by decide +kernel
theorem dX10_search_61 : decode cX10_search 61 = .ok (.invokevirtual 183, 3) := by decide +kernel
theorem dX10_search_64 : decode cX10_search 64 = .ok (.ireturn, 1) := by decide +kernel
theorem dX10_goOn_0 : decode cX10_goOn 0 = .ok (.iload_n 1, 1) := by decide +kernel
theorem dX10_goOn_1 : decode cX10_goOn 1 = .ok (.i2l, 1) := by decide +kernel
theorem dX10_goOn_2 : decode cX10_goOn 2 = .ok (.lconst 1, 1) := by decide +kernel
theorem dX10_goOn_3 : decode cX10_goOn 3 = .ok (.ldc2_w 330, 3) := by decide +kernel
theorem dX10_goOn_6 : decode cX10_goOn 6 = .ok (.invokestatic 152, 3) := by decide +kernel
theorem dX10_goOn_9 : decode cX10_goOn 9 = .ok (.ifCond .ne 10, 3) := by decide +kernel
theorem dX10_goOn_12 : decode cX10_goOn 12 = .ok (.aload_n 0, 1) := by decide +kernel
theorem dX10_goOn_13 : decode cX10_goOn 13 = .ok (.bipush (-3), 2) := by decide +kernel
theorem dX10_goOn_15 : decode cX10_goOn 15 = .ok (.invokevirtual 173, 3) := by decide +kernel
theorem dX10_goOn_18 : decode cX10_goOn 18 = .ok (.ireturn, 1) := by decide +kernel
theorem dX10_goOn_19 : decode cX10_goOn 19 = .ok (.aload_n 0, 1) := by decide +kernel
theorem dX10_goOn_20 : decode cX10_goOn 20 = .ok (.getfield 161, 3) := by decide +kernel
theorem dX10_goOn_23 : decode cX10_goOn 23 = .ok (.ifCond .eq 10, 3) := by decide +kernel
theorem dX10_goOn_26 : decode cX10_goOn 26 = .ok (.aload_n 0, 1) := by decide +kernel
theorem dX10_goOn_27 : decode cX10_goOn 27 = .ok (.getfield 158, 3) := by decide +kernel
theorem dX10_goOn_30 : decode cX10_goOn 30 = .ok (.ifCond .eq 10, 3) := by decide +kernel
theorem dX10_goOn_33 : decode cX10_goOn 33 = .ok (.aload_n 0, 1) := by decide +kernel
theorem dX10_goOn_34 : decode cX10_goOn 34 = .ok (.bipush (-4), 2) := by decide +kernel
theorem dX10_goOn_36 : decode cX10_goOn 36 = .ok (.invokevirtual 173, 3) := by decide +kernel
theorem dX10_goOn_39 : decode cX10_goOn 39 = .ok (.ireturn, 1) := by decide +kernel
theorem dX10_goOn_40 : decode cX10_goOn 40 = .ok (.aload_n 0, 1) := by decide +kernel
theorem dX10_goOn_41 : decode cX10_goOn 41 = .ok (.iload_n 1, 1) := by decide +kernel
theorem dX10_goOn_42 : decode cX10_goOn 42 = .ok (.invokevirtual 245, 3) := by decide +kernel
theorem dX10_goOn_45 : decode cX10_goOn 45 = .ok (.aload_n 0, 1) := by decide +kernel
theorem dX10_goOn_46 : decode cX10_goOn 46 = .ok (.aload_n 0, 1) := by decide +kernel
theorem dX10_goOn_47 : decode cX10_goOn 47 = .ok (.invokevirtual 332, 3) := by decide +kernel
theorem dX10_goOn_50 : decode cX10_goOn 50 = .ok (.ifCond .eq 7, 3) := by decide +kernel
theorem dX10_goOn_53 : decode cX10_goOn 53 = .ok (.iconst 1, 1) := by decide +kernel
theorem dX10_goOn_54 : decode cX10_goOn 54 = .ok (.goto 4, 3) := by decide +kernel
theorem dX10_goOn_57 : decode cX10_goOn 57 = .ok (.iconst 0, 1) := by decide +kernel
theorem dX10_goOn_58 : decode cX10_goOn 58 = .ok (.invokevirtual 183, 3) := by decide +kernel
theorem dX10_goOn_61 : decode cX10_goOn 61 = .ok (.ireturn, 1) := by decide +kernel
theorem dX10_searched_0 : decode cX10_searched 0 = .ok (.iload_n 1, 1) := by decide +kernel
theorem dX10_searched_1 : decode cX10_searched 1 = .ok (.i2l, 1) := by decide +kernel
theorem dX10_searched_2 : decode cX10_searched 2 = .ok (.lconst 0, 1) := by decide +kernel
theorem dX10_searched_3 : decode cX10_searched 3 = .ok (.ldc2_w 191, 3) := by decide +kernel
theorem dX10_searched_6 : decode cX10_searched 6 = .ok (.invokestatic 152, 3) := by decide +kernel
theorem dX10_searched_9 : decode cX10_searched 9 = .ok (.ifCond .ne 10, 3) := by decide +kernel
theorem dX10_searched_12 : decode cX10_searched 12 = .ok (.aload_n 0, 1) := by decide +kernel
theorem dX10_searched_13 : decode cX10_searched 13 = .ok (.bipush (-2), 2) := by decide +kernel
theorem dX10_searched_15 : decode cX10_searched 15 = .ok (.invokevirtual 173, 3) := by decide +kernel
theorem dX10_searched_18 : decode cX10_searched 18 = .ok (.ireturn, 1) := by decide +kernel
theorem dX10_searched_19 : decode cX10_searched 19 = .ok (.aload_n 0, 1) := by decide +kernel
theorem dX10_searched_20 : decode cX10_searched 20 = .ok (.getfield 161, 3) := by decide +kernel
theorem dX10_searched_23 : decode cX10_searched 23 = .ok (.ifCond .ne 9, 3) := by decide +kernel
theorem dX10_searched_26 : decode cX10_searched 26 = .ok (.aload_n 0, 1) := by decide +kernel
theorem dX10_searched_27 : decode cX10_searched 27 = .ok (.iconst (-1), 1) := by decide +kernel
theorem dX10_searched_28 : decode cX10_searched 28 = .ok (.invokevirtual 183, 3) := by decide +kernel
theorem dX10_searched_31 : decode cX10_searched 31 = .ok (.ireturn, 1) := by decide +kernel
theorem dX10_searched_32 : decode cX10_searched 32 = .ok (.iload_n 1, 1) := by decide +kernel
theorem dX10_searched_33 : decode cX10_searched 33 = .ok (.tableswitch 123 0 5 #[39, 48, 57, 80, 89, 106], 39) := by decide +kernel
theorem dX10_searched_72 : decode cX10_searched 72 = .ok (.aload_n 0, 1) := by decide +kernel
theorem dX10_searched_73 : decode cX10_searched 73 = .ok (.aload_n 0, 1) := by decide +kernel
theorem dX10_searched_74 : decode cX10_searched 74 = .ok (.getfield 318, 3) := by decide +kernel
theorem dX10_searched_77 : decode cX10_searched 77 = .ok (.invokevirtual 183, 3) := by decide +kernel
theorem dX10_searched_80 : decode cX10_searched 80 = .ok (.ireturn, 1) := by decide +kernel
theorem dX10_searched_81 : decode cX10_searched 81 = .ok (.aload_n 0, 1) := by decide +kernel
theorem dX10_searched_82 : decode cX10_searched 82 = .ok (.aload_n 0, 1) := by decide +kernel
theorem dX10_searched_83 : decode cX10_searched 83 = .ok (.getfield 321, 3) := by decide +kernel
theorem dX10_searched_86 : decode cX10_searched 86 = .ok (.invokevirtual 183, 3) := by decide +kernel
theorem dX10_searched_89 : decode cX10_searched 89 = .ok (.ireturn, 1) := by decide +kernel
theorem dX10_searched_90 : decode cX10_searched 90 = .ok (.aload_n 0, 1) := by decide +kernel
theorem dX10_searched_91 : decode cX10_searched 91 = .ok (.aload_n 0, 1) := by decide +kernel
theorem dX10_searched_92 : decode cX10_searched 92 = .ok (.getfield 74, 3) := by decide +kernel
theorem dX10_searched_95 : decode cX10_searched 95 = .ok (.aload_n 0, 1) := by decide +kernel
theorem dX10_searched_96 : decode cX10_searched 96 = .ok (.getfield 71, 3) := by decide +kernel
theorem dX10_searched_99 : decode cX10_searched 99 = .ok (.aload_n 0, 1) := by decide +kernel
theorem dX10_searched_100 : decode cX10_searched 100 = .ok (.getfield 318, 3) := by decide +kernel
theorem dX10_searched_103 : decode cX10_searched 103 = .ok (.iconst 1, 1) := by decide +kernel
theorem dX10_searched_104 : decode cX10_searched 104 = .ok (.isub, 1) := by decide +kernel
theorem dX10_searched_105 : decode cX10_searched 105 = .ok (.iaload, 1) := by decide +kernel
theorem dX10_searched_106 : decode cX10_searched 106 = .ok (.iaload, 1) := by decide +kernel
theorem dX10_searched_107 : decode cX10_searched 107 = .ok (.iconst 1, 1) := by decide +kernel
theorem dX10_searched_108 : decode cX10_searched 108 = .ok (.iadd, 1) := by decide +kernel
theorem dX10_searched_109 : decode cX10_searched 109 = .ok (.invokevirtual 183, 3) := by decide +kernel
theorem dX10_searched_112 : decode cX10_searched 112 = .ok (.ireturn, 1) := by decide +kernel
theorem dX10_searched_113 : decode cX10_searched 113 = .ok (.aload_n 0, 1) := by decide +kernel
theorem dX10_searched_114 : decode cX10_searched 114 = .ok (.aload_n 0, 1) := by decide +kernel
theorem dX10_searched_115 : decode cX10_searched 115 = .ok (.getfield 164, 3) := by decide +kernel
theorem dX10_searched_118 : decode cX10_searched 118 = .ok (.invokevirtual 183, 3) := by decide +kernel
theorem dX10_searched_121 : decode cX10_searched 121 = .ok (.ireturn, 1) := by decide +kernel
theorem dX10_searched_122 : decode cX10_searched 122 = .ok (.aload_n 0, 1) := by decide +kernel
theorem dX10_searched_123 : decode cX10_searched 123 = .ok (.aload_n 0, 1) := by decide +kernel
theorem dX10_searched_124 : decode cX10_searched 124 = .ok (.invokevirtual 332, 3) := by decide +kernel
theorem dX10_searched_127 : decode cX10_searched 127 = .ok (.ifCond .eq 7, 3) := by decide +kernel
theorem dX10_searched_130 : decode cX10_searched 130 = .ok (.iconst 1, 1) := by decide +kernel
theorem dX10_searched_131 : decode cX10_searched 131 = .ok (.goto 4, 3) := by decide +kernel
theorem dX10_searched_134 : decode cX10_searched 134 = .ok (.iconst 0, 1) := by decide +kernel
theorem dX10_searched_135 : decode cX10_searched 135 = .ok (.invokevirtual 183, 3) := by decide +kernel
theorem dX10_searched_138 : decode cX10_searched 138 = .ok (.ireturn, 1) := by decide +kernel
theorem dX10_searched_139 : decode cX10_searched 139 = .ok (.aload_n 0, 1) := by decide +kernel
theorem dX10_searched_140 : decode cX10_searched 140 = .ok (.aload_n 0, 1) := by decide +kernel
theorem dX10_searched_141 : decode cX10_searched 141 = .ok (.getfield 158, 3) := by decide +kernel
theorem dX10_searched_144 : decode cX10_searched 144 = .ok (.ifCond .eq 7, 3) := by decide +kernel
theorem dX10_searched_147 : decode cX10_searched 147 = .ok (.iconst 1, 1) := by decide +kernel
theorem dX10_searched_148 : decode cX10_searched 148 = .ok (.goto 4, 3) := by decide +kernel
theorem dX10_searched_151 : decode cX10_searched 151 = .ok (.iconst 0, 1) := by decide +kernel
theorem dX10_searched_152 : decode cX10_searched 152 = .ok (.invokevirtual 183, 3) := by decide +kernel
theorem dX10_searched_155 : decode cX10_searched 155 = .ok (.ireturn, 1) := by decide +kernel
theorem dX10_searched_156 : decode cX10_searched 156 = .ok (.aload_n 0, 1) := by decide +kernel
theorem dX10_searched_157 : decode cX10_searched 157 = .ok (.aload_n 0, 1) := by decide +kernel
theorem dX10_searched_158 : decode cX10_searched 158 = .ok (.getfield 71, 3) := by decide +kernel
theorem dX10_searched_161 : decode cX10_searched 161 = .ok (.iconst 0, 1) := by decide +kernel
theorem dX10_searched_162 : decode cX10_searched 162 = .ok (.iaload, 1) := by decide +kernel
theorem dX10_searched_163 : decode cX10_searched 163 = .ok (.invokevirtual 183, 3) := by decide +kernel
theorem dX10_searched_166 : decode cX10_searched 166 = .ok (.ireturn, 1) := by decide +kernel
theorem dX10_ordered_0 : decode cX10_ordered 0 = .ok (.aload_n 0, 1) := by decide +kernel
theorem dX10_ordered_1 : decode cX10_ordered 1 = .ok (.aload_n 0, 1) := by decide +kernel
theorem dX10_ordered_2 : decode cX10_ordered 2 = .ok (.getfield 161, 3) := by decide +kernel
theorem dX10_ordered_5 : decode cX10_ordered 5 = .ok (.ifCond .eq 28, 3) := by decide +kernel
theorem dX10_ordered_8 : decode cX10_ordered 8 = .ok (.iload_n 1, 1) := by decide +kernel
theorem dX10_ordered_9 : decode cX10_ordered 9 = .ok (.i2l, 1) := by decide +kernel
theorem dX10_ordered_10 : decode cX10_ordered 10 = .ok (.lconst 0, 1) := by decide +kernel
theorem dX10_ordered_11 : decode cX10_ordered 11 = .ok (.aload_n 0, 1) := by decide +kernel
theorem dX10_ordered_12 : decode cX10_ordered 12 = .ok (.getfield 318, 3) := by decide +kernel
theorem dX10_ordered_15 : decode cX10_ordered 15 = .ok (.iconst 1, 1) := by decide +kernel
theorem dX10_ordered_16 : decode cX10_ordered 16 = .ok (.isub, 1) := by decide +kernel
theorem dX10_ordered_17 : decode cX10_ordered 17 = .ok (.i2l, 1) := by decide +kernel
theorem dX10_ordered_18 : decode cX10_ordered 18 = .ok (.invokestatic 152, 3) := by decide +kernel
theorem dX10_ordered_21 : decode cX10_ordered 21 = .ok (.ifCond .eq 12, 3) := by decide +kernel
theorem dX10_ordered_24 : decode cX10_ordered 24 = .ok (.aload_n 0, 1) := by decide +kernel
theorem dX10_ordered_25 : decode cX10_ordered 25 = .ok (.getfield 71, 3) := by decide +kernel
theorem dX10_ordered_28 : decode cX10_ordered 28 = .ok (.iload_n 1, 1) := by decide +kernel
theorem dX10_ordered_29 : decode cX10_ordered 29 = .ok (.iaload, 1) := by decide +kernel
theorem dX10_ordered_30 : decode cX10_ordered 30 = .ok (.goto 4, 3) := by decide +kernel
theorem dX10_ordered_33 : decode cX10_ordered 33 = .ok (.iconst (-1), 1) := by decide +kernel
theorem dX10_ordered_34 : decode cX10_ordered 34 = .ok (.invokevirtual 183, 3) := by decide +kernel
theorem dX10_ordered_37 : decode cX10_ordered 37 = .ok (.ireturn, 1) := by decide +kernel
theorem dX10_layer_0 : decode cX10_layer 0 = .ok (.aload_n 0, 1) := by decide +kernel
theorem dX10_layer_1 : decode cX10_layer 1 = .ok (.aload_n 0, 1) := by decide +kernel
theorem dX10_layer_2 : decode cX10_layer 2 = .ok (.getfield 161, 3) := by decide +kernel
theorem dX10_layer_5 : decode cX10_layer 5 = .ok (.ifCond .eq 24, 3) := by decide +kernel
theorem dX10_layer_8 : decode cX10_layer 8 = .ok (.iload_n 1, 1) := by decide +kernel
theorem dX10_layer_9 : decode cX10_layer 9 = .ok (.i2l, 1) := by decide +kernel
theorem dX10_layer_10 : decode cX10_layer 10 = .ok (.lconst 0, 1) := by decide +kernel
theorem dX10_layer_11 : decode cX10_layer 11 = .ok (.ldc2_w 336, 3) := by decide +kernel
theorem dX10_layer_14 : decode cX10_layer 14 = .ok (.invokestatic 152, 3) := by decide +kernel
theorem dX10_layer_17 : decode cX10_layer 17 = .ok (.ifCond .eq 12, 3) := by decide +kernel
theorem dX10_layer_20 : decode cX10_layer 20 = .ok (.aload_n 0, 1) := by decide +kernel
theorem dX10_layer_21 : decode cX10_layer 21 = .ok (.getfield 74, 3) := by decide +kernel
theorem dX10_layer_24 : decode cX10_layer 24 = .ok (.iload_n 1, 1) := by decide +kernel
theorem dX10_layer_25 : decode cX10_layer 25 = .ok (.iaload, 1) := by decide +kernel
theorem dX10_layer_26 : decode cX10_layer 26 = .ok (.goto 4, 3) := by decide +kernel
theorem dX10_layer_29 : decode cX10_layer 29 = .ok (.iconst (-1), 1) := by decide +kernel
theorem dX10_layer_30 : decode cX10_layer 30 = .ok (.invokevirtual 183, 3) := by decide +kernel
theorem dX10_layer_33 : decode cX10_layer 33 = .ok (.ireturn, 1) := by decide +kernel
theorem dX10_shortest_0 : decode cX10_shortest 0 = .ok (.aload_n 0, 1) := by decide +kernel
theorem dX10_shortest_1 : decode cX10_shortest 1 = .ok (.getfield 161, 3) := by decide +kernel
theorem dX10_shortest_4 : decode cX10_shortest 4 = .ok (.ifCond .eq 10, 3) := by decide +kernel
theorem dX10_shortest_7 : decode cX10_shortest 7 = .ok (.aload_n 0, 1) := by decide +kernel
theorem dX10_shortest_8 : decode cX10_shortest 8 = .ok (.getfield 158, 3) := by decide +kernel
theorem dX10_shortest_11 : decode cX10_shortest 11 = .ok (.ifCond .eq 10, 3) := by decide +kernel
theorem dX10_shortest_14 : decode cX10_shortest 14 = .ok (.aload_n 0, 1) := by decide +kernel
theorem dX10_shortest_15 : decode cX10_shortest 15 = .ok (.bipush (-4), 2) := by decide +kernel
theorem dX10_shortest_17 : decode cX10_shortest 17 = .ok (.invokevirtual 173, 3) := by decide +kernel
theorem dX10_shortest_20 : decode cX10_shortest 20 = .ok (.ireturn, 1) := by decide +kernel
theorem dX10_shortest_21 : decode cX10_shortest 21 = .ok (.aload_n 0, 1) := by decide +kernel
theorem dX10_shortest_22 : decode cX10_shortest 22 = .ok (.aload_n 0, 1) := by decide +kernel
theorem dX10_shortest_23 : decode cX10_shortest 23 = .ok (.getfield 248, 3) := by decide +kernel
theorem dX10_shortest_26 : decode cX10_shortest 26 = .ok (.iconst (-1), 1) := by decide +kernel
theorem dX10_shortest_27 : decode cX10_shortest 27 = .ok (.if_icmp .eq 20, 3) := by decide +kernel
theorem dX10_shortest_30 : decode cX10_shortest 30 = .ok (.aload_n 0, 1) := by decide +kernel
theorem dX10_shortest_31 : decode cX10_shortest 31 = .ok (.getfield 74, 3) := by decide +kernel
theorem dX10_shortest_34 : decode cX10_shortest 34 = .ok (.aload_n 0, 1) := by decide +kernel
theorem dX10_shortest_35 : decode cX10_shortest 35 = .ok (.getfield 71, 3) := by decide +kernel
theorem dX10_shortest_38 : decode cX10_shortest 38 = .ok (.aload_n 0, 1) := by decide +kernel
theorem dX10_shortest_39 : decode cX10_shortest 39 = .ok (.getfield 248, 3) := by decide +kernel
theorem dX10_shortest_42 : decode cX10_shortest 42 = .ok (.iaload, 1) := by decide +kernel
theorem dX10_shortest_43 : decode cX10_shortest 43 = .ok (.iaload, 1) := by decide +kernel
theorem dX10_shortest_44 : decode cX10_shortest 44 = .ok (.goto 16, 3) := by decide +kernel
theorem dX10_shortest_47 : decode cX10_shortest 47 = .ok (.aload_n 0, 1) := by decide +kernel
theorem dX10_shortest_48 : decode cX10_shortest 48 = .ok (.invokevirtual 332, 3) := by decide +kernel
theorem dX10_shortest_51 : decode cX10_shortest 51 = .ok (.ifCond .eq 7, 3) := by decide +kernel
theorem dX10_shortest_54 : decode cX10_shortest 54 = .ok (.iconst (-1), 1) := by decide +kernel
theorem dX10_shortest_55 : decode cX10_shortest 55 = .ok (.goto 5, 3) := by decide +kernel
theorem dX10_shortest_58 : decode cX10_shortest 58 = .ok (.bipush (-9), 2) := by decide +kernel
theorem dX10_shortest_60 : decode cX10_shortest 60 = .ok (.invokevirtual 183, 3) := by decide +kernel
theorem dX10_shortest_63 : decode cX10_shortest 63 = .ok (.ireturn, 1) := by decide +kernel
theorem dX10_onWay_0 : decode cX10_onWay 0 = .ok (.aload_n 0, 1) := by decide +kernel
theorem dX10_onWay_1 : decode cX10_onWay 1 = .ok (.getfield 161, 3) := by decide +kernel
theorem dX10_onWay_4 : decode cX10_onWay 4 = .ok (.ifCond .eq 28, 3) := by decide +kernel
theorem dX10_onWay_7 : decode cX10_onWay 7 = .ok (.aload_n 0, 1) := by decide +kernel
theorem dX10_onWay_8 : decode cX10_onWay 8 = .ok (.getfield 248, 3) := by decide +kernel
theorem dX10_onWay_11 : decode cX10_onWay 11 = .ok (.iconst (-1), 1) := by decide +kernel
theorem dX10_onWay_12 : decode cX10_onWay 12 = .ok (.if_icmp .eq 20, 3) := by decide +kernel
theorem dX10_onWay_15 : decode cX10_onWay 15 = .ok (.aload_n 0, 1) := by decide +kernel
theorem dX10_onWay_16 : decode cX10_onWay 16 = .ok (.getfield 74, 3) := by decide +kernel
theorem dX10_onWay_19 : decode cX10_onWay 19 = .ok (.aload_n 0, 1) := by decide +kernel
theorem dX10_onWay_20 : decode cX10_onWay 20 = .ok (.getfield 71, 3) := by decide +kernel
theorem dX10_onWay_23 : decode cX10_onWay 23 = .ok (.aload_n 0, 1) := by decide +kernel
theorem dX10_onWay_24 : decode cX10_onWay 24 = .ok (.getfield 248, 3) := by decide +kernel
theorem dX10_onWay_27 : decode cX10_onWay 27 = .ok (.iaload, 1) := by decide +kernel
theorem dX10_onWay_28 : decode cX10_onWay 28 = .ok (.iaload, 1) := by decide +kernel
theorem dX10_onWay_29 : decode cX10_onWay 29 = .ok (.goto 4, 3) := by decide +kernel
theorem dX10_onWay_32 : decode cX10_onWay 32 = .ok (.iconst (-1), 1) := by decide +kernel
theorem dX10_onWay_33 : decode cX10_onWay 33 = .ok (.istore_n 2, 1) := by decide +kernel
theorem dX10_onWay_34 : decode cX10_onWay 34 = .ok (.iload_n 1, 1) := by decide +kernel
theorem dX10_onWay_35 : decode cX10_onWay 35 = .ok (.i2l, 1) := by decide +kernel
theorem dX10_onWay_36 : decode cX10_onWay 36 = .ok (.lconst 0, 1) := by decide +kernel
theorem dX10_onWay_37 : decode cX10_onWay 37 = .ok (.iload_n 2, 1) := by decide +kernel
theorem dX10_onWay_38 : decode cX10_onWay 38 = .ok (.i2l, 1) := by decide +kernel
theorem dX10_onWay_39 : decode cX10_onWay 39 = .ok (.invokestatic 152, 3) := by decide +kernel
theorem dX10_onWay_42 : decode cX10_onWay 42 = .ok (.ifCond .ne 5, 3) := by decide +kernel
theorem dX10_onWay_45 : decode cX10_onWay 45 = .ok (.iconst (-1), 1) := by decide +kernel
theorem dX10_onWay_46 : decode cX10_onWay 46 = .ok (.ireturn, 1) := by decide +kernel
theorem dX10_onWay_47 : decode cX10_onWay 47 = .ok (.aload_n 0, 1) := by decide +kernel
theorem dX10_onWay_48 : decode cX10_onWay 48 = .ok (.getfield 248, 3) := by decide +kernel
theorem dX10_onWay_51 : decode cX10_onWay 51 = .ok (.istore_n 3, 1) := by decide +kernel
theorem dX10_onWay_52 : decode cX10_onWay 52 = .ok (.iload_n 2, 1) := by decide +kernel
theorem dX10_onWay_53 : decode cX10_onWay 53 = .ok (.istore 4, 2) := by decide +kernel
theorem dX10_onWay_55 : decode cX10_onWay 55 = .ok (.iload 4, 2) := by decide +kernel
theorem dX10_onWay_57 : decode cX10_onWay 57 = .ok (.iload_n 1, 1) := by decide +kernel
theorem dX10_onWay_58 : decode cX10_onWay 58 = .ok (.if_icmp .le 16, 3) := by decide +kernel
theorem dX10_onWay_61 : decode cX10_onWay 61 = .ok (.aload_n 0, 1) := by decide +kernel
theorem dX10_onWay_62 : decode cX10_onWay 62 = .ok (.getfield 84, 3) := by decide +kernel
theorem dX10_onWay_65 : decode cX10_onWay 65 = .ok (.iload_n 3, 1) := by decide +kernel
theorem dX10_onWay_66 : decode cX10_onWay 66 = .ok (.iaload, 1) := by decide +kernel
theorem dX10_onWay_67 : decode cX10_onWay 67 = .ok (.istore_n 3, 1) := by decide +kernel
theorem dX10_onWay_68 : decode cX10_onWay 68 = .ok (.iinc 4 (-1), 3) := by decide +kernel
theorem dX10_onWay_71 : decode cX10_onWay 71 = .ok (.goto (-16), 3) := by decide +kernel
theorem dX10_onWay_74 : decode cX10_onWay 74 = .ok (.iload_n 3, 1) := by decide +kernel
theorem dX10_onWay_75 : decode cX10_onWay 75 = .ok (.ireturn, 1) := by decide +kernel
theorem dX10_way_0 : decode cX10_way 0 = .ok (.iload_n 1, 1) := by decide +kernel
theorem dX10_way_1 : decode cX10_way 1 = .ok (.ldc_w 338, 3) := by decide +kernel
theorem dX10_way_4 : decode cX10_way 4 = .ok (.if_icmp .eq 7, 3) := by decide +kernel
theorem dX10_way_7 : decode cX10_way 7 = .ok (.iload_n 1, 1) := by decide +kernel
theorem dX10_way_8 : decode cX10_way 8 = .ok (.ifCond .ge 7, 3) := by decide +kernel
theorem dX10_way_11 : decode cX10_way 11 = .ok (.iconst (-1), 1) := by decide +kernel
theorem dX10_way_12 : decode cX10_way 12 = .ok (.goto 10, 3) := by decide +kernel
theorem dX10_way_15 : decode cX10_way 15 = .ok (.aload_n 0, 1) := by decide +kernel
theorem dX10_way_16 : decode cX10_way 16 = .ok (.iload_n 1, 1) := by decide +kernel
theorem dX10_way_17 : decode cX10_way 17 = .ok (.iconst 1, 1) := by decide +kernel
theorem dX10_way_18 : decode cX10_way 18 = .ok (.iadd, 1) := by decide +kernel
theorem dX10_way_19 : decode cX10_way 19 = .ok (.invokevirtual 339, 3) := by decide +kernel
theorem dX10_way_22 : decode cX10_way 22 = .ok (.istore_n 2, 1) := by decide +kernel
theorem dX10_way_23 : decode cX10_way 23 = .ok (.aload_n 0, 1) := by decide +kernel
theorem dX10_way_24 : decode cX10_way 24 = .ok (.iload_n 2, 1) := by decide +kernel
theorem dX10_way_25 : decode cX10_way 25 = .ok (.iconst (-1), 1) := by decide +kernel
theorem dX10_way_26 : decode cX10_way 26 = .ok (.if_icmp .ne 7, 3) := by decide +kernel
theorem dX10_way_29 : decode cX10_way 29 = .ok (.iconst (-1), 1) := by decide +kernel
theorem dX10_way_30 : decode cX10_way 30 = .ok (.goto 9, 3) := by decide +kernel
theorem dX10_way_33 : decode cX10_way 33 = .ok (.aload_n 0, 1) := by decide +kernel
theorem dX10_way_34 : decode cX10_way 34 = .ok (.getfield 87, 3) := by decide +kernel
theorem dX10_way_37 : decode cX10_way 37 = .ok (.iload_n 2, 1) := by decide +kernel
theorem dX10_way_38 : decode cX10_way 38 = .ok (.iaload, 1) := by decide +kernel
theorem dX10_way_39 : decode cX10_way 39 = .ok (.invokevirtual 183, 3) := by decide +kernel
theorem dX10_way_42 : decode cX10_way 42 = .ok (.ireturn, 1) := by decide +kernel
theorem dX10_along_0 : decode cX10_along 0 = .ok (.aload_n 0, 1) := by decide +kernel
theorem dX10_along_1 : decode cX10_along 1 = .ok (.iload_n 1, 1) := by decide +kernel
theorem dX10_along_2 : decode cX10_along 2 = .ok (.invokevirtual 339, 3) := by decide +kernel
theorem dX10_along_5 : decode cX10_along 5 = .ok (.istore_n 2, 1) := by decide +kernel
theorem dX10_along_6 : decode cX10_along 6 = .ok (.aload_n 0, 1) := by decide +kernel
theorem dX10_along_7 : decode cX10_along 7 = .ok (.iload_n 2, 1) := by decide +kernel
theorem dX10_along_8 : decode cX10_along 8 = .ok (.iconst (-1), 1) := by decide +kernel
theorem dX10_along_9 : decode cX10_along 9 = .ok (.if_icmp .ne 7, 3) := by decide +kernel
theorem dX10_along_12 : decode cX10_along 12 = .ok (.iconst (-1), 1) := by decide +kernel
theorem dX10_along_13 : decode cX10_along 13 = .ok (.goto 9, 3) := by decide +kernel
theorem dX10_along_16 : decode cX10_along 16 = .ok (.aload_n 0, 1) := by decide +kernel
theorem dX10_along_17 : decode cX10_along 17 = .ok (.getfield 71, 3) := by decide +kernel
theorem dX10_along_20 : decode cX10_along 20 = .ok (.iload_n 2, 1) := by decide +kernel
theorem dX10_along_21 : decode cX10_along 21 = .ok (.iaload, 1) := by decide +kernel
theorem dX10_along_22 : decode cX10_along 22 = .ok (.invokevirtual 183, 3) := by decide +kernel
theorem dX10_along_25 : decode cX10_along 25 = .ok (.ireturn, 1) := by decide +kernel
theorem dX10_measure_0 : decode cX10_measure 0 = .ok (.aload_n 0, 1) := by decide +kernel
theorem dX10_measure_1 : decode cX10_measure 1 = .ok (.getfield 324, 3) := by decide +kernel
theorem dX10_measure_4 : decode cX10_measure 4 = .ok (.ifCond .eq 4, 3) := by decide +kernel
theorem dX10_measure_7 : decode cX10_measure 7 = .ok (.return_, 1) := by decide +kernel
theorem dX10_measure_8 : decode cX10_measure 8 = .ok (.aload_n 0, 1) := by decide +kernel
theorem dX10_measure_9 : decode cX10_measure 9 = .ok (.iconst 1, 1) := by decide +kernel
theorem dX10_measure_10 : decode cX10_measure 10 = .ok (.putfield 324, 3) := by decide +kernel
theorem dX10_measure_13 : decode cX10_measure 13 = .ok (.iconst 0, 1) := by decide +kernel
theorem dX10_measure_14 : decode cX10_measure 14 = .ok (.istore_n 1, 1) := by decide +kernel
theorem dX10_measure_15 : decode cX10_measure 15 = .ok (.iload_n 1, 1) := by decide +kernel
theorem dX10_measure_16 : decode cX10_measure 16 = .ok (.aload_n 0, 1) := by decide +kernel
theorem dX10_measure_17 : decode cX10_measure 17 = .ok (.getfield 318, 3) := by decide +kernel
theorem dX10_measure_20 : decode cX10_measure 20 = .ok (.if_icmp .ge 23, 3) := by decide +kernel
theorem dX10_measure_23 : decode cX10_measure 23 = .ok (.aload_n 0, 1) := by decide +kernel
theorem dX10_measure_24 : decode cX10_measure 24 = .ok (.getfield 97, 3) := by decide +kernel
theorem dX10_measure_27 : decode cX10_measure 27 = .ok (.iload_n 1, 1) := by decide +kernel
theorem dX10_measure_28 : decode cX10_measure 28 = .ok (.iconst (-1), 1) := by decide +kernel
theorem dX10_measure_29 : decode cX10_measure 29 = .ok (.iastore, 1) := by decide +kernel
theorem dX10_measure_30 : decode cX10_measure 30 = .ok (.aload_n 0, 1) := by decide +kernel
theorem dX10_measure_31 : decode cX10_measure 31 = .ok (.getfield 94, 3) := by decide +kernel
theorem dX10_measure_34 : decode cX10_measure 34 = .ok (.iload_n 1, 1) := by decide +kernel
theorem dX10_measure_35 : decode cX10_measure 35 = .ok (.iconst (-1), 1) := by decide +kernel
theorem dX10_measure_36 : decode cX10_measure 36 = .ok (.iastore, 1) := by decide +kernel
theorem dX10_measure_37 : decode cX10_measure 37 = .ok (.iinc 1 1, 3) := by decide +kernel
theorem dX10_measure_40 : decode cX10_measure 40 = .ok (.goto (-25), 3) := by decide +kernel
theorem dX10_measure_43 : decode cX10_measure 43 = .ok (.iconst 0, 1) := by decide +kernel
theorem dX10_measure_44 : decode cX10_measure 44 = .ok (.istore_n 1, 1) := by decide +kernel
theorem dX10_measure_45 : decode cX10_measure 45 = .ok (.iload_n 1, 1) := by decide +kernel
theorem dX10_measure_46 : decode cX10_measure 46 = .ok (.bipush 38, 2) := by decide +kernel
theorem dX10_measure_48 : decode cX10_measure 48 = .ok (.aload_n 0, 1) := by decide +kernel
theorem dX10_measure_49 : decode cX10_measure 49 = .ok (.getfield 318, 3) := by decide +kernel
theorem dX10_measure_52 : decode cX10_measure 52 = .ok (.imul, 1) := by decide +kernel
theorem dX10_measure_53 : decode cX10_measure 53 = .ok (.if_icmp .ge 48, 3) := by decide +kernel
theorem dX10_measure_56 : decode cX10_measure 56 = .ok (.aload_n 0, 1) := by decide +kernel
theorem dX10_measure_57 : decode cX10_measure 57 = .ok (.getfield 91, 3) := by decide +kernel
theorem dX10_measure_60 : decode cX10_measure 60 = .ok (.iload_n 1, 1) := by decide +kernel
theorem dX10_measure_61 : decode cX10_measure 61 = .ok (.iaload, 1) := by decide +kernel
theorem dX10_measure_62 : decode cX10_measure 62 = .ok (.iconst (-1), 1) := by decide +kernel
theorem dX10_measure_63 : decode cX10_measure 63 = .ok (.if_icmp .eq 32, 3) := by decide +kernel
theorem dX10_measure_66 : decode cX10_measure 66 = .ok (.aload_n 0, 1) := by decide +kernel
theorem dX10_measure_67 : decode cX10_measure 67 = .ok (.getfield 100, 3) := by decide +kernel
theorem dX10_measure_70 : decode cX10_measure 70 = .ok (.iload_n 1, 1) := by decide +kernel
theorem dX10_measure_71 : decode cX10_measure 71 = .ok (.aload_n 0, 1) := by decide +kernel
theorem dX10_measure_72 : decode cX10_measure 72 = .ok (.getfield 97, 3) := by decide +kernel
theorem dX10_measure_75 : decode cX10_measure 75 = .ok (.aload_n 0, 1) := by decide +kernel
theorem dX10_measure_76 : decode cX10_measure 76 = .ok (.getfield 91, 3) := by decide +kernel
theorem dX10_measure_79 : decode cX10_measure 79 = .ok (.iload_n 1, 1) := by decide +kernel
theorem dX10_measure_80 : decode cX10_measure 80 = .ok (.iaload, 1) := by decide +kernel
theorem dX10_measure_81 : decode cX10_measure 81 = .ok (.iaload, 1) := by decide +kernel
theorem dX10_measure_82 : decode cX10_measure 82 = .ok (.iastore, 1) := by decide +kernel
theorem dX10_measure_83 : decode cX10_measure 83 = .ok (.aload_n 0, 1) := by decide +kernel
theorem dX10_measure_84 : decode cX10_measure 84 = .ok (.getfield 97, 3) := by decide +kernel
theorem dX10_measure_87 : decode cX10_measure 87 = .ok (.aload_n 0, 1) := by decide +kernel
theorem dX10_measure_88 : decode cX10_measure 88 = .ok (.getfield 91, 3) := by decide +kernel
theorem dX10_measure_91 : decode cX10_measure 91 = .ok (.iload_n 1, 1) := by decide +kernel
theorem dX10_measure_92 : decode cX10_measure 92 = .ok (.iaload, 1) := by decide +kernel
theorem dX10_measure_93 : decode cX10_measure 93 = .ok (.iload_n 1, 1) := by decide +kernel
theorem dX10_measure_94 : decode cX10_measure 94 = .ok (.iastore, 1) := by decide +kernel
theorem dX10_measure_95 : decode cX10_measure 95 = .ok (.iinc 1 1, 3) := by decide +kernel
theorem dX10_measure_98 : decode cX10_measure 98 = .ok (.goto (-53), 3) := by decide +kernel
theorem dX10_measure_101 : decode cX10_measure 101 = .ok (.iconst 0, 1) := by decide +kernel
theorem dX10_measure_102 : decode cX10_measure 102 = .ok (.istore_n 1, 1) := by decide +kernel
theorem dX10_measure_103 : decode cX10_measure 103 = .ok (.iconst 0, 1) := by decide +kernel
theorem dX10_measure_104 : decode cX10_measure 104 = .ok (.istore_n 2, 1) := by decide +kernel
theorem dX10_measure_105 : decode cX10_measure 105 = .ok (.iload_n 2, 1) := by decide +kernel
theorem dX10_measure_106 : decode cX10_measure 106 = .ok (.aload_n 0, 1) := by decide +kernel
theorem dX10_measure_107 : decode cX10_measure 107 = .ok (.getfield 318, 3) := by decide +kernel
theorem dX10_measure_110 : decode cX10_measure 110 = .ok (.if_icmp .ge 35, 3) := by decide +kernel
theorem dX10_measure_113 : decode cX10_measure 113 = .ok (.aload_n 0, 1) := by decide +kernel
theorem dX10_measure_114 : decode cX10_measure 114 = .ok (.getfield 80, 3) := by decide +kernel
theorem dX10_measure_117 : decode cX10_measure 117 = .ok (.iload_n 2, 1) := by decide +kernel
theorem dX10_measure_118 : decode cX10_measure 118 = .ok (.baload, 1) := by decide +kernel
theorem dX10_measure_119 : decode cX10_measure 119 = .ok (.ifCond .eq 20, 3) := by decide +kernel
theorem dX10_measure_122 : decode cX10_measure 122 = .ok (.aload_n 0, 1) := by decide +kernel
theorem dX10_measure_123 : decode cX10_measure 123 = .ok (.getfield 94, 3) := by decide +kernel
theorem dX10_measure_126 : decode cX10_measure 126 = .ok (.iload_n 2, 1) := by decide +kernel
theorem dX10_measure_127 : decode cX10_measure 127 = .ok (.iconst 0, 1) := by decide +kernel
theorem dX10_measure_128 : decode cX10_measure 128 = .ok (.iastore, 1) := by decide +kernel
theorem dX10_measure_129 : decode cX10_measure 129 = .ok (.aload_n 0, 1) := by decide +kernel
theorem dX10_measure_130 : decode cX10_measure 130 = .ok (.getfield 103, 3) := by decide +kernel
theorem dX10_measure_133 : decode cX10_measure 133 = .ok (.iload_n 1, 1) := by decide +kernel
theorem dX10_measure_134 : decode cX10_measure 134 = .ok (.iload_n 2, 1) := by decide +kernel
theorem dX10_measure_135 : decode cX10_measure 135 = .ok (.iastore, 1) := by decide +kernel
theorem dX10_measure_136 : decode cX10_measure 136 = .ok (.iinc 1 1, 3) := by decide +kernel
theorem dX10_measure_139 : decode cX10_measure 139 = .ok (.iinc 2 1, 3) := by decide +kernel
theorem dX10_measure_142 : decode cX10_measure 142 = .ok (.goto (-37), 3) := by decide +kernel
theorem dX10_measure_145 : decode cX10_measure 145 = .ok (.iconst 0, 1) := by decide +kernel
theorem dX10_measure_146 : decode cX10_measure 146 = .ok (.istore_n 2, 1) := by decide +kernel
theorem dX10_measure_147 : decode cX10_measure 147 = .ok (.iload_n 2, 1) := by decide +kernel
theorem dX10_measure_148 : decode cX10_measure 148 = .ok (.iload_n 1, 1) := by decide +kernel
theorem dX10_measure_149 : decode cX10_measure 149 = .ok (.if_icmp .ge 84, 3) := by decide +kernel
theorem dX10_measure_152 : decode cX10_measure 152 = .ok (.aload_n 0, 1) := by decide +kernel
theorem dX10_measure_153 : decode cX10_measure 153 = .ok (.getfield 97, 3) := by decide +kernel
theorem dX10_measure_156 : decode cX10_measure 156 = .ok (.aload_n 0, 1) := by decide +kernel
theorem dX10_measure_157 : decode cX10_measure 157 = .ok (.getfield 103, 3) := by decide +kernel
theorem dX10_measure_160 : decode cX10_measure 160 = .ok (.iload_n 2, 1) := by decide +kernel
theorem dX10_measure_161 : decode cX10_measure 161 = .ok (.iaload, 1) := by decide +kernel
theorem dX10_measure_162 : decode cX10_measure 162 = .ok (.iaload, 1) := by decide +kernel
theorem dX10_measure_163 : decode cX10_measure 163 = .ok (.istore_n 3, 1) := by decide +kernel
theorem dX10_measure_164 : decode cX10_measure 164 = .ok (.iload_n 3, 1) := by decide +kernel
theorem dX10_measure_165 : decode cX10_measure 165 = .ok (.iconst (-1), 1) := by decide +kernel
theorem dX10_measure_166 : decode cX10_measure 166 = .ok (.if_icmp .eq 61, 3) := by decide +kernel
theorem dX10_measure_169 : decode cX10_measure 169 = .ok (.iload_n 3, 1) := by decide +kernel
theorem dX10_measure_170 : decode cX10_measure 170 = .ok (.bipush 38, 2) := by decide +kernel
theorem dX10_measure_172 : decode cX10_measure 172 = .ok (.idiv, 1) := by decide +kernel
theorem dX10_measure_173 : decode cX10_measure 173 = .ok (.istore 4, 2) := by decide +kernel
theorem dX10_measure_175 : decode cX10_measure 175 = .ok (.aload_n 0, 1) := by decide +kernel
theorem dX10_measure_176 : decode cX10_measure 176 = .ok (.getfield 94, 3) := by decide +kernel
theorem dX10_measure_179 : decode cX10_measure 179 = .ok (.iload 4, 2) := by decide +kernel
theorem dX10_measure_181 : decode cX10_measure 181 = .ok (.iaload, 1) := by decide +kernel
theorem dX10_measure_182 : decode cX10_measure 182 = .ok (.iconst (-1), 1) := by decide +kernel
theorem dX10_measure_183 : decode cX10_measure 183 = .ok (.if_icmp .ne 34, 3) := by decide +kernel
theorem dX10_measure_186 : decode cX10_measure 186 = .ok (.aload_n 0, 1) := by decide +kernel
theorem dX10_measure_187 : decode cX10_measure 187 = .ok (.getfield 94, 3) := by decide +kernel
theorem dX10_measure_190 : decode cX10_measure 190 = .ok (.iload 4, 2) := by decide +kernel
theorem dX10_measure_192 : decode cX10_measure 192 = .ok (.aload_n 0, 1) := by decide +kernel
theorem dX10_measure_193 : decode cX10_measure 193 = .ok (.getfield 94, 3) := by decide +kernel
theorem dX10_measure_196 : decode cX10_measure 196 = .ok (.aload_n 0, 1) := by decide +kernel
theorem dX10_measure_197 : decode cX10_measure 197 = .ok (.getfield 103, 3) := by decide +kernel
theorem dX10_measure_200 : decode cX10_measure 200 = .ok (.iload_n 2, 1) := by decide +kernel
theorem dX10_measure_201 : decode cX10_measure 201 = .ok (.iaload, 1) := by decide +kernel
theorem dX10_measure_202 : decode cX10_measure 202 = .ok (.iaload, 1) := by decide +kernel
theorem dX10_measure_203 : decode cX10_measure 203 = .ok (.iconst 1, 1) := by decide +kernel
theorem dX10_measure_204 : decode cX10_measure 204 = .ok (.iadd, 1) := by decide +kernel
theorem dX10_measure_205 : decode cX10_measure 205 = .ok (.iastore, 1) := by decide +kernel
theorem dX10_measure_206 : decode cX10_measure 206 = .ok (.aload_n 0, 1) := by decide +kernel
theorem dX10_measure_207 : decode cX10_measure 207 = .ok (.getfield 103, 3) := by decide +kernel
theorem dX10_measure_210 : decode cX10_measure 210 = .ok (.iload_n 1, 1) := by decide +kernel
theorem dX10_measure_211 : decode cX10_measure 211 = .ok (.iload 4, 2) := by decide +kernel
theorem dX10_measure_213 : decode cX10_measure 213 = .ok (.iastore, 1) := by decide +kernel
theorem dX10_measure_214 : decode cX10_measure 214 = .ok (.iinc 1 1, 3) := by decide +kernel
theorem dX10_measure_217 : decode cX10_measure 217 = .ok (.aload_n 0, 1) := by decide +kernel
theorem dX10_measure_218 : decode cX10_measure 218 = .ok (.getfield 100, 3) := by decide +kernel
theorem dX10_measure_221 : decode cX10_measure 221 = .ok (.iload_n 3, 1) := by decide +kernel
theorem dX10_measure_222 : decode cX10_measure 222 = .ok (.iaload, 1) := by decide +kernel
theorem dX10_measure_223 : decode cX10_measure 223 = .ok (.istore_n 3, 1) := by decide +kernel
theorem dX10_measure_224 : decode cX10_measure 224 = .ok (.goto (-60), 3) := by decide +kernel
theorem dX10_measure_227 : decode cX10_measure 227 = .ok (.iinc 2 1, 3) := by decide +kernel
theorem dX10_measure_230 : decode cX10_measure 230 = .ok (.goto (-83), 3) := by decide +kernel
theorem dX10_measure_233 : decode cX10_measure 233 = .ok (.return_, 1) := by decide +kernel
theorem dX10_isReady_0 : decode cX10_isReady 0 = .ok (.aload_n 0, 1) := by decide +kernel
theorem dX10_isReady_1 : decode cX10_isReady 1 = .ok (.getfield 161, 3) := by decide +kernel
theorem dX10_isReady_4 : decode cX10_isReady 4 = .ok (.ifCond .eq 21, 3) := by decide +kernel
theorem dX10_isReady_7 : decode cX10_isReady 7 = .ok (.aload_n 0, 1) := by decide +kernel
theorem dX10_isReady_8 : decode cX10_isReady 8 = .ok (.getfield 158, 3) := by decide +kernel
theorem dX10_isReady_11 : decode cX10_isReady 11 = .ok (.ifCond .ne 14, 3) := by decide +kernel
theorem dX10_isReady_14 : decode cX10_isReady 14 = .ok (.aload_n 0, 1) := by decide +kernel
theorem dX10_isReady_15 : decode cX10_isReady 15 = .ok (.invokevirtual 332, 3) := by decide +kernel
theorem dX10_isReady_18 : decode cX10_isReady 18 = .ok (.ifCond .eq 7, 3) := by decide +kernel
theorem dX10_isReady_21 : decode cX10_isReady 21 = .ok (.iconst 1, 1) := by decide +kernel
theorem dX10_isReady_22 : decode cX10_isReady 22 = .ok (.goto 4, 3) := by decide +kernel
theorem dX10_isReady_25 : decode cX10_isReady 25 = .ok (.iconst 0, 1) := by decide +kernel
theorem dX10_isReady_26 : decode cX10_isReady 26 = .ok (.ireturn, 1) := by decide +kernel
theorem dX10_trap_0 : decode cX10_trap 0 = .ok (.aload_n 0, 1) := by decide +kernel
theorem dX10_trap_1 : decode cX10_trap 1 = .ok (.invokevirtual 342, 3) := by decide +kernel
theorem dX10_trap_4 : decode cX10_trap 4 = .ok (.ifCond .ne 10, 3) := by decide +kernel
theorem dX10_trap_7 : decode cX10_trap 7 = .ok (.aload_n 0, 1) := by decide +kernel
theorem dX10_trap_8 : decode cX10_trap 8 = .ok (.bipush (-4), 2) := by decide +kernel
theorem dX10_trap_10 : decode cX10_trap 10 = .ok (.invokevirtual 173, 3) := by decide +kernel
theorem dX10_trap_13 : decode cX10_trap 13 = .ok (.ireturn, 1) := by decide +kernel
theorem dX10_trap_14 : decode cX10_trap 14 = .ok (.iload_n 1, 1) := by decide +kernel
theorem dX10_trap_15 : decode cX10_trap 15 = .ok (.i2l, 1) := by decide +kernel
theorem dX10_trap_16 : decode cX10_trap 16 = .ok (.lconst 0, 1) := by decide +kernel
theorem dX10_trap_17 : decode cX10_trap 17 = .ok (.ldc2_w 336, 3) := by decide +kernel
theorem dX10_trap_20 : decode cX10_trap 20 = .ok (.invokestatic 152, 3) := by decide +kernel
theorem dX10_trap_23 : decode cX10_trap 23 = .ok (.ifCond .eq 13, 3) := by decide +kernel
theorem dX10_trap_26 : decode cX10_trap 26 = .ok (.aload_n 0, 1) := by decide +kernel
theorem dX10_trap_27 : decode cX10_trap 27 = .ok (.getfield 74, 3) := by decide +kernel
theorem dX10_trap_30 : decode cX10_trap 30 = .ok (.iload_n 1, 1) := by decide +kernel
theorem dX10_trap_31 : decode cX10_trap 31 = .ok (.iaload, 1) := by decide +kernel
theorem dX10_trap_32 : decode cX10_trap 32 = .ok (.iconst (-1), 1) := by decide +kernel
theorem dX10_trap_33 : decode cX10_trap 33 = .ok (.if_icmp .ne 9, 3) := by decide +kernel
theorem dX10_trap_36 : decode cX10_trap 36 = .ok (.aload_n 0, 1) := by decide +kernel
theorem dX10_trap_37 : decode cX10_trap 37 = .ok (.iconst (-1), 1) := by decide +kernel
theorem dX10_trap_38 : decode cX10_trap 38 = .ok (.invokevirtual 183, 3) := by decide +kernel
theorem dX10_trap_41 : decode cX10_trap 41 = .ok (.ireturn, 1) := by decide +kernel
theorem dX10_trap_42 : decode cX10_trap 42 = .ok (.aload_n 0, 1) := by decide +kernel
theorem dX10_trap_43 : decode cX10_trap 43 = .ok (.invokevirtual 345, 3) := by decide +kernel
theorem dX10_trap_46 : decode cX10_trap 46 = .ok (.aload_n 0, 1) := by decide +kernel
theorem dX10_trap_47 : decode cX10_trap 47 = .ok (.aload_n 0, 1) := by decide +kernel
theorem dX10_trap_48 : decode cX10_trap 48 = .ok (.getfield 94, 3) := by decide +kernel
theorem dX10_trap_51 : decode cX10_trap 51 = .ok (.aload_n 0, 1) := by decide +kernel
theorem dX10_trap_52 : decode cX10_trap 52 = .ok (.getfield 77, 3) := by decide +kernel
theorem dX10_trap_55 : decode cX10_trap 55 = .ok (.iload_n 1, 1) := by decide +kernel
theorem dX10_trap_56 : decode cX10_trap 56 = .ok (.iaload, 1) := by decide +kernel
theorem dX10_trap_57 : decode cX10_trap 57 = .ok (.iaload, 1) := by decide +kernel
theorem dX10_trap_58 : decode cX10_trap 58 = .ok (.iconst (-1), 1) := by decide +kernel
theorem dX10_trap_59 : decode cX10_trap 59 = .ok (.if_icmp .ne 7, 3) := by decide +kernel
theorem dX10_trap_62 : decode cX10_trap 62 = .ok (.iconst 1, 1) := by decide +kernel
theorem dX10_trap_63 : decode cX10_trap 63 = .ok (.goto 4, 3) := by decide +kernel
theorem dX10_trap_66 : decode cX10_trap 66 = .ok (.iconst 0, 1) := by decide +kernel
theorem dX10_trap_67 : decode cX10_trap 67 = .ok (.invokevirtual 183, 3) := by decide +kernel
theorem dX10_trap_70 : decode cX10_trap 70 = .ok (.ireturn, 1) := by decide +kernel
theorem dX10_traps_0 : decode cX10_traps 0 = .ok (.aload_n 0, 1) := by decide +kernel
theorem dX10_traps_1 : decode cX10_traps 1 = .ok (.invokevirtual 342, 3) := by decide +kernel
theorem dX10_traps_4 : decode cX10_traps 4 = .ok (.ifCond .ne 10, 3) := by decide +kernel
theorem dX10_traps_7 : decode cX10_traps 7 = .ok (.aload_n 0, 1) := by decide +kernel
theorem dX10_traps_8 : decode cX10_traps 8 = .ok (.bipush (-4), 2) := by decide +kernel
theorem dX10_traps_10 : decode cX10_traps 10 = .ok (.invokevirtual 173, 3) := by decide +kernel
theorem dX10_traps_13 : decode cX10_traps 13 = .ok (.ireturn, 1) := by decide +kernel
theorem dX10_traps_14 : decode cX10_traps 14 = .ok (.aload_n 0, 1) := by decide +kernel
theorem dX10_traps_15 : decode cX10_traps 15 = .ok (.invokevirtual 345, 3) := by decide +kernel
theorem dX10_traps_18 : decode cX10_traps 18 = .ok (.iconst 0, 1) := by decide +kernel
theorem dX10_traps_19 : decode cX10_traps 19 = .ok (.istore_n 1, 1) := by decide +kernel
theorem dX10_traps_20 : decode cX10_traps 20 = .ok (.iconst 0, 1) := by decide +kernel
theorem dX10_traps_21 : decode cX10_traps 21 = .ok (.istore_n 2, 1) := by decide +kernel
theorem dX10_traps_22 : decode cX10_traps 22 = .ok (.iload_n 2, 1) := by decide +kernel
theorem dX10_traps_23 : decode cX10_traps 23 = .ok (.aload_n 0, 1) := by decide +kernel
theorem dX10_traps_24 : decode cX10_traps 24 = .ok (.getfield 318, 3) := by decide +kernel
theorem dX10_traps_27 : decode cX10_traps 27 = .ok (.if_icmp .ge 27, 3) := by decide +kernel
theorem dX10_traps_30 : decode cX10_traps 30 = .ok (.iload_n 1, 1) := by decide +kernel
theorem dX10_traps_31 : decode cX10_traps 31 = .ok (.aload_n 0, 1) := by decide +kernel
theorem dX10_traps_32 : decode cX10_traps 32 = .ok (.getfield 94, 3) := by decide +kernel
theorem dX10_traps_35 : decode cX10_traps 35 = .ok (.iload_n 2, 1) := by decide +kernel
theorem dX10_traps_36 : decode cX10_traps 36 = .ok (.iaload, 1) := by decide +kernel
theorem dX10_traps_37 : decode cX10_traps 37 = .ok (.iconst (-1), 1) := by decide +kernel
theorem dX10_traps_38 : decode cX10_traps 38 = .ok (.if_icmp .ne 7, 3) := by decide +kernel
theorem dX10_traps_41 : decode cX10_traps 41 = .ok (.iconst 1, 1) := by decide +kernel
theorem dX10_traps_42 : decode cX10_traps 42 = .ok (.goto 4, 3) := by decide +kernel
theorem dX10_traps_45 : decode cX10_traps 45 = .ok (.iconst 0, 1) := by decide +kernel
theorem dX10_traps_46 : decode cX10_traps 46 = .ok (.iadd, 1) := by decide +kernel
theorem dX10_traps_47 : decode cX10_traps 47 = .ok (.istore_n 1, 1) := by decide +kernel
theorem dX10_traps_48 : decode cX10_traps 48 = .ok (.iinc 2 1, 3) := by decide +kernel
theorem dX10_traps_51 : decode cX10_traps 51 = .ok (.goto (-29), 3) := by decide +kernel
theorem dX10_traps_54 : decode cX10_traps 54 = .ok (.aload_n 0, 1) := by decide +kernel
theorem dX10_traps_55 : decode cX10_traps 55 = .ok (.iload_n 1, 1) := by decide +kernel
theorem dX10_traps_56 : decode cX10_traps 56 = .ok (.invokevirtual 183, 3) := by decide +kernel
theorem dX10_traps_59 : decode cX10_traps 59 = .ok (.ireturn, 1) := by decide +kernel
theorem dX10_hint_0 : decode cX10_hint 0 = .ok (.iload_n 1, 1) := by decide +kernel
theorem dX10_hint_1 : decode cX10_hint 1 = .ok (.invokestatic 167, 3) := by decide +kernel
theorem dX10_hint_4 : decode cX10_hint 4 = .ok (.ifCond .ne 10, 3) := by decide +kernel
theorem dX10_hint_7 : decode cX10_hint 7 = .ok (.aload_n 0, 1) := by decide +kernel
theorem dX10_hint_8 : decode cX10_hint 8 = .ok (.bipush (-2), 2) := by decide +kernel
theorem dX10_hint_10 : decode cX10_hint 10 = .ok (.invokevirtual 173, 3) := by decide +kernel
theorem dX10_hint_13 : decode cX10_hint 13 = .ok (.ireturn, 1) := by decide +kernel
theorem dX10_hint_14 : decode cX10_hint 14 = .ok (.aload_n 0, 1) := by decide +kernel
theorem dX10_hint_15 : decode cX10_hint 15 = .ok (.invokevirtual 342, 3) := by decide +kernel
theorem dX10_hint_18 : decode cX10_hint 18 = .ok (.ifCond .eq 11, 3) := by decide +kernel
theorem dX10_hint_21 : decode cX10_hint 21 = .ok (.aload_n 0, 1) := by decide +kernel
theorem dX10_hint_22 : decode cX10_hint 22 = .ok (.getfield 164, 3) := by decide +kernel
theorem dX10_hint_25 : decode cX10_hint 25 = .ok (.iload_n 1, 1) := by decide +kernel
theorem dX10_hint_26 : decode cX10_hint 26 = .ok (.if_icmp .eq 10, 3) := by decide +kernel
theorem dX10_hint_29 : decode cX10_hint 29 = .ok (.aload_n 0, 1) := by decide +kernel
theorem dX10_hint_30 : decode cX10_hint 30 = .ok (.bipush (-4), 2) := by decide +kernel
theorem dX10_hint_32 : decode cX10_hint 32 = .ok (.invokevirtual 173, 3) := by decide +kernel
theorem dX10_hint_35 : decode cX10_hint 35 = .ok (.ireturn, 1) := by decide +kernel
theorem dX10_hint_36 : decode cX10_hint 36 = .ok (.aload_n 0, 1) := by decide +kernel
theorem dX10_hint_37 : decode cX10_hint 37 = .ok (.invokevirtual 345, 3) := by decide +kernel
theorem dX10_hint_40 : decode cX10_hint 40 = .ok (.aload_n 0, 1) := by decide +kernel
theorem dX10_hint_41 : decode cX10_hint 41 = .ok (.iload_n 1, 1) := by decide +kernel
theorem dX10_hint_42 : decode cX10_hint 42 = .ok (.invokevirtual 282, 3) := by decide +kernel
theorem dX10_hint_45 : decode cX10_hint 45 = .ok (.istore_n 2, 1) := by decide +kernel
theorem dX10_hint_46 : decode cX10_hint 46 = .ok (.aload_n 0, 1) := by decide +kernel
theorem dX10_hint_47 : decode cX10_hint 47 = .ok (.getfield 74, 3) := by decide +kernel
theorem dX10_hint_50 : decode cX10_hint 50 = .ok (.iload_n 2, 1) := by decide +kernel
theorem dX10_hint_51 : decode cX10_hint 51 = .ok (.iaload, 1) := by decide +kernel
theorem dX10_hint_52 : decode cX10_hint 52 = .ok (.iconst (-1), 1) := by decide +kernel
theorem dX10_hint_53 : decode cX10_hint 53 = .ok (.if_icmp .ne 7, 3) := by decide +kernel
theorem dX10_hint_56 : decode cX10_hint 56 = .ok (.iconst (-1), 1) := by decide +kernel
theorem dX10_hint_57 : decode cX10_hint 57 = .ok (.goto 9, 3) := by decide +kernel
theorem dX10_hint_60 : decode cX10_hint 60 = .ok (.aload_n 0, 1) := by decide +kernel
theorem dX10_hint_61 : decode cX10_hint 61 = .ok (.getfield 77, 3) := by decide +kernel
theorem dX10_hint_64 : decode cX10_hint 64 = .ok (.iload_n 2, 1) := by decide +kernel
theorem dX10_hint_65 : decode cX10_hint 65 = .ok (.iaload, 1) := by decide +kernel
theorem dX10_hint_66 : decode cX10_hint 66 = .ok (.istore_n 3, 1) := by decide +kernel
theorem dX10_hint_67 : decode cX10_hint 67 = .ok (.iload_n 3, 1) := by decide +kernel
theorem dX10_hint_68 : decode cX10_hint 68 = .ok (.iconst (-1), 1) := by decide +kernel
theorem dX10_hint_69 : decode cX10_hint 69 = .ok (.if_icmp .eq 13, 3) := by decide +kernel
theorem dX10_hint_72 : decode cX10_hint 72 = .ok (.aload_n 0, 1) := by decide +kernel
theorem dX10_hint_73 : decode cX10_hint 73 = .ok (.getfield 94, 3) := by decide +kernel
theorem dX10_hint_76 : decode cX10_hint 76 = .ok (.iload_n 3, 1) := by decide +kernel
theorem dX10_hint_77 : decode cX10_hint 77 = .ok (.iaload, 1) := by decide +kernel
theorem dX10_hint_78 : decode cX10_hint 78 = .ok (.iconst 1, 1) := by decide +kernel
theorem dX10_hint_79 : decode cX10_hint 79 = .ok (.if_icmp .ge 9, 3) := by decide +kernel
theorem dX10_hint_82 : decode cX10_hint 82 = .ok (.aload_n 0, 1) := by decide +kernel
theorem dX10_hint_83 : decode cX10_hint 83 = .ok (.iconst (-1), 1) := by decide +kernel
theorem dX10_hint_84 : decode cX10_hint 84 = .ok (.invokevirtual 183, 3) := by decide +kernel
theorem dX10_hint_87 : decode cX10_hint 87 = .ok (.ireturn, 1) := by decide +kernel
theorem dX10_hint_88 : decode cX10_hint 88 = .ok (.iconst 0, 1) := by decide +kernel
theorem dX10_hint_89 : decode cX10_hint 89 = .ok (.istore 4, 2) := by decide +kernel
theorem dX10_hint_91 : decode cX10_hint 91 = .ok (.aload_n 0, 1) := by decide +kernel
theorem dX10_hint_92 : decode cX10_hint 92 = .ok (.getfield 91, 3) := by decide +kernel
theorem dX10_hint_95 : decode cX10_hint 95 = .ok (.bipush 38, 2) := by decide +kernel
theorem dX10_hint_97 : decode cX10_hint 97 = .ok (.iload_n 3, 1) := by decide +kernel
theorem dX10_hint_98 : decode cX10_hint 98 = .ok (.imul, 1) := by decide +kernel
theorem dX10_hint_99 : decode cX10_hint 99 = .ok (.iload 4, 2) := by decide +kernel
theorem dX10_hint_101 : decode cX10_hint 101 = .ok (.iadd, 1) := by decide +kernel
theorem dX10_hint_102 : decode cX10_hint 102 = .ok (.iaload, 1) := by decide +kernel
theorem dX10_hint_103 : decode cX10_hint 103 = .ok (.iconst (-1), 1) := by decide +kernel
theorem dX10_hint_104 : decode cX10_hint 104 = .ok (.if_icmp .eq 31, 3) := by decide +kernel
theorem dX10_hint_107 : decode cX10_hint 107 = .ok (.aload_n 0, 1) := by decide +kernel
theorem dX10_hint_108 : decode cX10_hint 108 = .ok (.getfield 94, 3) := by decide +kernel
theorem dX10_hint_111 : decode cX10_hint 111 = .ok (.aload_n 0, 1) := by decide +kernel
theorem dX10_hint_112 : decode cX10_hint 112 = .ok (.getfield 91, 3) := by decide +kernel
theorem dX10_hint_115 : decode cX10_hint 115 = .ok (.bipush 38, 2) := by decide +kernel
theorem dX10_hint_117 : decode cX10_hint 117 = .ok (.iload_n 3, 1) := by decide +kernel
theorem dX10_hint_118 : decode cX10_hint 118 = .ok (.imul, 1) := by decide +kernel
theorem dX10_hint_119 : decode cX10_hint 119 = .ok (.iload 4, 2) := by decide +kernel
theorem dX10_hint_121 : decode cX10_hint 121 = .ok (.iadd, 1) := by decide +kernel
theorem dX10_hint_122 : decode cX10_hint 122 = .ok (.iaload, 1) := by decide +kernel
theorem dX10_hint_123 : decode cX10_hint 123 = .ok (.iaload, 1) := by decide +kernel
theorem dX10_hint_124 : decode cX10_hint 124 = .ok (.aload_n 0, 1) := by decide +kernel
theorem dX10_hint_125 : decode cX10_hint 125 = .ok (.getfield 94, 3) := by decide +kernel
theorem dX10_hint_128 : decode cX10_hint 128 = .ok (.iload_n 3, 1) := by decide +kernel
theorem dX10_hint_129 : decode cX10_hint 129 = .ok (.iaload, 1) := by decide +kernel
theorem dX10_hint_130 : decode cX10_hint 130 = .ok (.iconst 1, 1) := by decide +kernel
theorem dX10_hint_131 : decode cX10_hint 131 = .ok (.isub, 1) := by decide +kernel
theorem dX10_hint_132 : decode cX10_hint 132 = .ok (.if_icmp .eq 9, 3) := by decide +kernel
theorem dX10_hint_135 : decode cX10_hint 135 = .ok (.iinc 4 1, 3) := by decide +kernel
theorem dX10_hint_138 : decode cX10_hint 138 = .ok (.goto (-47), 3) := by decide +kernel
theorem dX10_hint_141 : decode cX10_hint 141 = .ok (.aload_n 0, 1) := by decide +kernel
theorem dX10_hint_142 : decode cX10_hint 142 = .ok (.iload 4, 2) := by decide +kernel
theorem dX10_hint_144 : decode cX10_hint 144 = .ok (.invokevirtual 183, 3) := by decide +kernel
theorem dX10_hint_147 : decode cX10_hint 147 = .ok (.ireturn, 1) := by decide +kernel
theorem dX10_mark_0 : decode cX10_mark 0 = .ok (.iload_n 1, 1) := by decide +kernel
theorem dX10_mark_1 : decode cX10_mark 1 = .ok (.i2l, 1) := by decide +kernel
theorem dX10_mark_2 : decode cX10_mark 2 = .ok (.lconst 0, 1) := by decide +kernel
theorem dX10_mark_3 : decode cX10_mark 3 = .ok (.ldc2_w 348, 3) := by decide +kernel
theorem dX10_mark_6 : decode cX10_mark 6 = .ok (.invokestatic 152, 3) := by decide +kernel
theorem dX10_mark_9 : decode cX10_mark 9 = .ok (.ifCond .eq 24, 3) := by decide +kernel
theorem dX10_mark_12 : decode cX10_mark 12 = .ok (.iload_n 2, 1) := by decide +kernel
theorem dX10_mark_13 : decode cX10_mark 13 = .ok (.i2l, 1) := by decide +kernel
theorem dX10_mark_14 : decode cX10_mark 14 = .ok (.lconst 0, 1) := by decide +kernel
theorem dX10_mark_15 : decode cX10_mark 15 = .ok (.ldc2_w 348, 3) := by decide +kernel
theorem dX10_mark_18 : decode cX10_mark 18 = .ok (.invokestatic 152, 3) := by decide +kernel
theorem dX10_mark_21 : decode cX10_mark 21 = .ok (.ifCond .eq 12, 3) := by decide +kernel
theorem dX10_mark_24 : decode cX10_mark 24 = .ok (.iload_n 1, 1) := by decide +kernel
theorem dX10_mark_25 : decode cX10_mark 25 = .ok (.iload_n 2, 1) := by decide +kernel
theorem dX10_mark_26 : decode cX10_mark 26 = .ok (.iadd, 1) := by decide +kernel
theorem dX10_mark_27 : decode cX10_mark 27 = .ok (.sipush 1024, 3) := by decide +kernel
theorem dX10_mark_30 : decode cX10_mark 30 = .ok (.if_icmp .le 10, 3) := by decide +kernel
theorem dX10_mark_33 : decode cX10_mark 33 = .ok (.aload_n 0, 1) := by decide +kernel
theorem dX10_mark_34 : decode cX10_mark 34 = .ok (.bipush (-3), 2) := by decide +kernel
theorem dX10_mark_36 : decode cX10_mark 36 = .ok (.invokevirtual 173, 3) := by decide +kernel
theorem dX10_mark_39 : decode cX10_mark 39 = .ok (.ireturn, 1) := by decide +kernel
theorem dX10_mark_40 : decode cX10_mark 40 = .ok (.iconst 0, 1) := by decide +kernel
theorem dX10_mark_41 : decode cX10_mark 41 = .ok (.istore 4, 2) := by decide +kernel
theorem dX10_mark_43 : decode cX10_mark 43 = .ok (.iload_n 1, 1) := by decide +kernel
theorem dX10_mark_44 : decode cX10_mark 44 = .ok (.istore 5, 2) := by decide +kernel
theorem dX10_mark_46 : decode cX10_mark 46 = .ok (.iload 5, 2) := by decide +kernel
theorem dX10_mark_48 : decode cX10_mark 48 = .ok (.iload_n 1, 1) := by decide +kernel
theorem dX10_mark_49 : decode cX10_mark 49 = .ok (.iload_n 2, 1) := by decide +kernel
theorem dX10_mark_50 : decode cX10_mark 50 = .ok (.iadd, 1) := by decide +kernel
theorem dX10_mark_51 : decode cX10_mark 51 = .ok (.if_icmp .ge 38, 3) := by decide +kernel
theorem dX10_mark_54 : decode cX10_mark 54 = .ok (.iload 4, 2) := by decide +kernel
theorem dX10_mark_56 : decode cX10_mark 56 = .ok (.aload_n 0, 1) := by decide +kernel
theorem dX10_mark_57 : decode cX10_mark 57 = .ok (.getfield 106, 3) := by decide +kernel
theorem dX10_mark_60 : decode cX10_mark 60 = .ok (.iload 5, 2) := by decide +kernel
theorem dX10_mark_62 : decode cX10_mark 62 = .ok (.baload, 1) := by decide +kernel
theorem dX10_mark_63 : decode cX10_mark 63 = .ok (.iload_n 3, 1) := by decide +kernel
theorem dX10_mark_64 : decode cX10_mark 64 = .ok (.if_icmp .eq 7, 3) := by decide +kernel
theorem dX10_mark_67 : decode cX10_mark 67 = .ok (.iconst 1, 1) := by decide +kernel
theorem dX10_mark_68 : decode cX10_mark 68 = .ok (.goto 4, 3) := by decide +kernel
theorem dX10_mark_71 : decode cX10_mark 71 = .ok (.iconst 0, 1) := by decide +kernel
theorem dX10_mark_72 : decode cX10_mark 72 = .ok (.iadd, 1) := by decide +kernel
theorem dX10_mark_73 : decode cX10_mark 73 = .ok (.istore 4, 2) := by decide +kernel
theorem dX10_mark_75 : decode cX10_mark 75 = .ok (.aload_n 0, 1) := by decide +kernel
theorem dX10_mark_76 : decode cX10_mark 76 = .ok (.getfield 106, 3) := by decide +kernel
theorem dX10_mark_79 : decode cX10_mark 79 = .ok (.iload 5, 2) := by decide +kernel
theorem dX10_mark_81 : decode cX10_mark 81 = .ok (.iload_n 3, 1) := by decide +kernel
theorem dX10_mark_82 : decode cX10_mark 82 = .ok (.bastore, 1) := by decide +kernel
theorem dX10_mark_83 : decode cX10_mark 83 = .ok (.iinc 5 1, 3) := by decide +kernel
theorem dX10_mark_86 : decode cX10_mark 86 = .ok (.goto (-40), 3) := by decide +kernel
theorem dX10_mark_89 : decode cX10_mark 89 = .ok (.aload_n 0, 1) := by decide +kernel
theorem dX10_mark_90 : decode cX10_mark 90 = .ok (.iload 4, 2) := by decide +kernel
theorem dX10_mark_92 : decode cX10_mark 92 = .ok (.invokevirtual 183, 3) := by decide +kernel
theorem dX10_mark_95 : decode cX10_mark 95 = .ok (.ireturn, 1) := by decide +kernel
theorem dX10_markAll_0 : decode cX10_markAll 0 = .ok (.aload_n 0, 1) := by decide +kernel
theorem dX10_markAll_1 : decode cX10_markAll 1 = .ok (.getfield 161, 3) := by decide +kernel
theorem dX10_markAll_4 : decode cX10_markAll 4 = .ok (.ifCond .ne 10, 3) := by decide +kernel
theorem dX10_markAll_7 : decode cX10_markAll 7 = .ok (.aload_n 0, 1) := by decide +kernel
theorem dX10_markAll_8 : decode cX10_markAll 8 = .ok (.bipush (-4), 2) := by decide +kernel
theorem dX10_markAll_10 : decode cX10_markAll 10 = .ok (.invokevirtual 173, 3) := by decide +kernel
theorem dX10_markAll_13 : decode cX10_markAll 13 = .ok (.ireturn, 1) := by decide +kernel
theorem dX10_markAll_14 : decode cX10_markAll 14 = .ok (.iconst 0, 1) := by decide +kernel
theorem dX10_markAll_15 : decode cX10_markAll 15 = .ok (.istore_n 1, 1) := by decide +kernel
theorem dX10_markAll_16 : decode cX10_markAll 16 = .ok (.iload_n 1, 1) := by decide +kernel
theorem dX10_markAll_17 : decode cX10_markAll 17 = .ok (.sipush 1024, 3) := by decide +kernel
theorem dX10_markAll_20 : decode cX10_markAll 20 = .ok (.if_icmp .ge 30, 3) := by decide +kernel
theorem dX10_markAll_23 : decode cX10_markAll 23 = .ok (.aload_n 0, 1) := by decide +kernel
theorem dX10_markAll_24 : decode cX10_markAll 24 = .ok (.getfield 106, 3) := by decide +kernel
theorem dX10_markAll_27 : decode cX10_markAll 27 = .ok (.iload_n 1, 1) := by decide +kernel
theorem dX10_markAll_28 : decode cX10_markAll 28 = .ok (.aload_n 0, 1) := by decide +kernel
theorem dX10_markAll_29 : decode cX10_markAll 29 = .ok (.getfield 74, 3) := by decide +kernel
theorem dX10_markAll_32 : decode cX10_markAll 32 = .ok (.iload_n 1, 1) := by decide +kernel
theorem dX10_markAll_33 : decode cX10_markAll 33 = .ok (.iaload, 1) := by decide +kernel
theorem dX10_markAll_34 : decode cX10_markAll 34 = .ok (.iconst (-1), 1) := by decide +kernel
theorem dX10_markAll_35 : decode cX10_markAll 35 = .ok (.if_icmp .eq 7, 3) := by decide +kernel
theorem dX10_markAll_38 : decode cX10_markAll 38 = .ok (.iconst 1, 1) := by decide +kernel
theorem dX10_markAll_39 : decode cX10_markAll 39 = .ok (.goto 4, 3) := by decide +kernel
theorem dX10_markAll_42 : decode cX10_markAll 42 = .ok (.iconst 0, 1) := by decide +kernel
theorem dX10_markAll_43 : decode cX10_markAll 43 = .ok (.bastore, 1) := by decide +kernel
theorem dX10_markAll_44 : decode cX10_markAll 44 = .ok (.iinc 1 1, 3) := by decide +kernel
theorem dX10_markAll_47 : decode cX10_markAll 47 = .ok (.goto (-31), 3) := by decide +kernel
theorem dX10_markAll_50 : decode cX10_markAll 50 = .ok (.aload_n 0, 1) := by decide +kernel
theorem dX10_markAll_51 : decode cX10_markAll 51 = .ok (.aload_n 0, 1) := by decide +kernel
theorem dX10_markAll_52 : decode cX10_markAll 52 = .ok (.getfield 318, 3) := by decide +kernel
theorem dX10_markAll_55 : decode cX10_markAll 55 = .ok (.invokevirtual 183, 3) := by decide +kernel
theorem dX10_markAll_58 : decode cX10_markAll 58 = .ok (.ireturn, 1) := by decide +kernel
theorem dX10_marked_0 : decode cX10_marked 0 = .ok (.aload_n 0, 1) := by decide +kernel
theorem dX10_marked_1 : decode cX10_marked 1 = .ok (.iload_n 1, 1) := by decide +kernel
theorem dX10_marked_2 : decode cX10_marked 2 = .ok (.i2l, 1) := by decide +kernel
theorem dX10_marked_3 : decode cX10_marked 3 = .ok (.lconst 0, 1) := by decide +kernel
theorem dX10_marked_4 : decode cX10_marked 4 = .ok (.ldc2_w 336, 3) := by decide +kernel
theorem dX10_marked_7 : decode cX10_marked 7 = .ok (.invokestatic 152, 3) := by decide +kernel
theorem dX10_marked_10 : decode cX10_marked 10 = .ok (.ifCond .ne 7, 3) := by decide +kernel
theorem dX10_marked_13 : decode cX10_marked 13 = .ok (.iconst (-1), 1) := by decide +kernel
theorem dX10_marked_14 : decode cX10_marked 14 = .ok (.goto 17, 3) := by decide +kernel
theorem dX10_marked_17 : decode cX10_marked 17 = .ok (.aload_n 0, 1) := by decide +kernel
theorem dX10_marked_18 : decode cX10_marked 18 = .ok (.getfield 106, 3) := by decide +kernel
theorem dX10_marked_21 : decode cX10_marked 21 = .ok (.iload_n 1, 1) := by decide +kernel
theorem dX10_marked_22 : decode cX10_marked 22 = .ok (.baload, 1) := by decide +kernel
theorem dX10_marked_23 : decode cX10_marked 23 = .ok (.ifCond .eq 7, 3) := by decide +kernel
theorem dX10_marked_26 : decode cX10_marked 26 = .ok (.iconst 1, 1) := by decide +kernel
theorem dX10_marked_27 : decode cX10_marked 27 = .ok (.goto 4, 3) := by decide +kernel
theorem dX10_marked_30 : decode cX10_marked 30 = .ok (.iconst 0, 1) := by decide +kernel
theorem dX10_marked_31 : decode cX10_marked 31 = .ok (.invokevirtual 183, 3) := by decide +kernel
theorem dX10_marked_34 : decode cX10_marked 34 = .ok (.ireturn, 1) := by decide +kernel
theorem dX10_lookedAt_0 : decode cX10_lookedAt 0 = .ok (.aload_n 0, 1) := by decide +kernel
theorem dX10_lookedAt_1 : decode cX10_lookedAt 1 = .ok (.iload_n 1, 1) := by decide +kernel
theorem dX10_lookedAt_2 : decode cX10_lookedAt 2 = .ok (.putfield 109, 3) := by decide +kernel
theorem dX10_lookedAt_5 : decode cX10_lookedAt 5 = .ok (.aload_n 0, 1) := by decide +kernel
theorem dX10_lookedAt_6 : decode cX10_lookedAt 6 = .ok (.iload_n 2, 1) := by decide +kernel
theorem dX10_lookedAt_7 : decode cX10_lookedAt 7 = .ok (.putfield 112, 3) := by decide +kernel
theorem dX10_lookedAt_10 : decode cX10_lookedAt 10 = .ok (.aload_n 0, 1) := by decide +kernel
theorem dX10_lookedAt_11 : decode cX10_lookedAt 11 = .ok (.iload_n 3, 1) := by decide +kernel
theorem dX10_lookedAt_12 : decode cX10_lookedAt 12 = .ok (.putfield 115, 3) := by decide +kernel
theorem dX10_lookedAt_15 : decode cX10_lookedAt 15 = .ok (.iload_n 1, 1) := by decide +kernel
theorem dX10_lookedAt_16 : decode cX10_lookedAt 16 = .ok (.iconst (-1), 1) := by decide +kernel
theorem dX10_lookedAt_17 : decode cX10_lookedAt 17 = .ok (.if_icmp .ne 7, 3) := by decide +kernel
theorem dX10_lookedAt_20 : decode cX10_lookedAt 20 = .ok (.iconst 1, 1) := by decide +kernel
theorem dX10_lookedAt_21 : decode cX10_lookedAt 21 = .ok (.goto 4, 3) := by decide +kernel
theorem dX10_lookedAt_24 : decode cX10_lookedAt 24 = .ok (.iconst 0, 1) := by decide +kernel
theorem dX10_lookedAt_25 : decode cX10_lookedAt 25 = .ok (.ireturn, 1) := by decide +kernel
theorem dX10_goesOver_0 : decode cX10_goesOver 0 = .ok (.aload_n 0, 1) := by decide +kernel
theorem dX10_goesOver_1 : decode cX10_goesOver 1 = .ok (.getfield 106, 3) := by decide +kernel
theorem dX10_goesOver_4 : decode cX10_goesOver 4 = .ok (.iload_n 2, 1) := by decide +kernel
theorem dX10_goesOver_5 : decode cX10_goesOver 5 = .ok (.baload, 1) := by decide +kernel
theorem dX10_goesOver_6 : decode cX10_goesOver 6 = .ok (.ifCond .ne 12, 3) := by decide +kernel
theorem dX10_goesOver_9 : decode cX10_goesOver 9 = .ok (.aload_n 0, 1) := by decide +kernel
theorem dX10_goesOver_10 : decode cX10_goesOver 10 = .ok (.iload_n 2, 1) := by decide +kernel
theorem dX10_goesOver_11 : decode cX10_goesOver 11 = .ok (.bipush (-2), 2) := by decide +kernel
theorem dX10_goesOver_13 : decode cX10_goesOver 13 = .ok (.iconst (-1), 1) := by decide +kernel
theorem dX10_goesOver_14 : decode cX10_goesOver 14 = .ok (.invokevirtual 350, 3) := by decide +kernel
theorem dX10_goesOver_17 : decode cX10_goesOver 17 = .ok (.ireturn, 1) := by decide +kernel
theorem dX10_goesOver_18 : decode cX10_goesOver 18 = .ok (.aload_n 0, 1) := by decide +kernel
theorem dX10_goesOver_19 : decode cX10_goesOver 19 = .ok (.iload_n 1, 1) := by decide +kernel
theorem dX10_goesOver_20 : decode cX10_goesOver 20 = .ok (.iconst (-1), 1) := by decide +kernel
theorem dX10_goesOver_21 : decode cX10_goesOver 21 = .ok (.invokevirtual 193, 3) := by decide +kernel
theorem dX10_goesOver_24 : decode cX10_goesOver 24 = .ok (.istore_n 3, 1) := by decide +kernel
theorem dX10_goesOver_25 : decode cX10_goesOver 25 = .ok (.iconst 0, 1) := by decide +kernel
theorem dX10_goesOver_26 : decode cX10_goesOver 26 = .ok (.istore 4, 2) := by decide +kernel
theorem dX10_goesOver_28 : decode cX10_goesOver 28 = .ok (.iload 4, 2) := by decide +kernel
theorem dX10_goesOver_30 : decode cX10_goesOver 30 = .ok (.iload_n 3, 1) := by decide +kernel
theorem dX10_goesOver_31 : decode cX10_goesOver 31 = .ok (.if_icmp .ge 114, 3) := by decide +kernel
theorem dX10_goesOver_34 : decode cX10_goesOver 34 = .ok (.aload_n 0, 1) := by decide +kernel
theorem dX10_goesOver_35 : decode cX10_goesOver 35 = .ok (.getfield 106, 3) := by decide +kernel
theorem dX10_goesOver_38 : decode cX10_goesOver 38 = .ok (.iload 4, 2) := by decide +kernel
theorem dX10_goesOver_40 : decode cX10_goesOver 40 = .ok (.baload, 1) := by decide +kernel
theorem dX10_goesOver_41 : decode cX10_goesOver 41 = .ok (.ifCond .ne 6, 3) := by decide +kernel
theorem dX10_goesOver_44 : decode cX10_goesOver 44 = .ok (.goto 95, 3) := by decide +kernel
theorem dX10_goesOver_47 : decode cX10_goesOver 47 = .ok (.aload_n 0, 1) := by decide +kernel
theorem dX10_goesOver_48 : decode cX10_goesOver 48 = .ok (.iload_n 1, 1) := by decide +kernel
theorem dX10_goesOver_49 : decode cX10_goesOver 49 = .ok (.iload 4, 2) := by decide +kernel
theorem dX10_goesOver_51 : decode cX10_goesOver 51 = .ok (.invokevirtual 285, 3) := by decide +kernel
theorem dX10_goesOver_54 : decode cX10_goesOver 54 = .ok (.aload_n 0, 1) := by decide +kernel
theorem dX10_goesOver_55 : decode cX10_goesOver 55 = .ok (.iload_n 1, 1) := by decide +kernel
theorem dX10_goesOver_56 : decode cX10_goesOver 56 = .ok (.invokevirtual 279, 3) := by decide +kernel
theorem dX10_goesOver_59 : decode cX10_goesOver 59 = .ok (.ifCond .eq 12, 3) := by decide +kernel
theorem dX10_goesOver_62 : decode cX10_goesOver 62 = .ok (.aload_n 0, 1) := by decide +kernel
theorem dX10_goesOver_63 : decode cX10_goesOver 63 = .ok (.iload 4, 2) := by decide +kernel
theorem dX10_goesOver_65 : decode cX10_goesOver 65 = .ok (.iconst (-1), 1) := by decide +kernel
theorem dX10_goesOver_66 : decode cX10_goesOver 66 = .ok (.iconst (-1), 1) := by decide +kernel
theorem dX10_goesOver_67 : decode cX10_goesOver 67 = .ok (.invokevirtual 350, 3) := by decide +kernel
theorem dX10_goesOver_70 : decode cX10_goesOver 70 = .ok (.ireturn, 1) := by decide +kernel
theorem dX10_goesOver_71 : decode cX10_goesOver 71 = .ok (.iconst 0, 1) := by decide +kernel
theorem dX10_goesOver_72 : decode cX10_goesOver 72 = .ok (.istore 5, 2) := by decide +kernel
theorem dX10_goesOver_74 : decode cX10_goesOver 74 = .ok (.iload 5, 2) := by decide +kernel
theorem dX10_goesOver_76 : decode cX10_goesOver 76 = .ok (.bipush 38, 2) := by decide +kernel
theorem dX10_goesOver_78 : decode cX10_goesOver 78 = .ok (.if_icmp .ge 61, 3) := by decide +kernel
theorem dX10_goesOver_81 : decode cX10_goesOver 81 = .ok (.aload_n 0, 1) := by decide +kernel
theorem dX10_goesOver_82 : decode cX10_goesOver 82 = .ok (.iload_n 1, 1) := by decide +kernel
theorem dX10_goesOver_83 : decode cX10_goesOver 83 = .ok (.iload 4, 2) := by decide +kernel
theorem dX10_goesOver_85 : decode cX10_goesOver 85 = .ok (.invokevirtual 285, 3) := by decide +kernel
theorem dX10_goesOver_88 : decode cX10_goesOver 88 = .ok (.aload_n 0, 1) := by decide +kernel
theorem dX10_goesOver_89 : decode cX10_goesOver 89 = .ok (.iload_n 1, 1) := by decide +kernel
theorem dX10_goesOver_90 : decode cX10_goesOver 90 = .ok (.iload 5, 2) := by decide +kernel
theorem dX10_goesOver_92 : decode cX10_goesOver 92 = .ok (.invokevirtual 276, 3) := by decide +kernel
theorem dX10_goesOver_95 : decode cX10_goesOver 95 = .ok (.ifCond .eq 38, 3) := by decide +kernel
theorem dX10_goesOver_98 : decode cX10_goesOver 98 = .ok (.aload_n 0, 1) := by decide +kernel
theorem dX10_goesOver_99 : decode cX10_goesOver 99 = .ok (.iload_n 1, 1) := by decide +kernel
theorem dX10_goesOver_100 : decode cX10_goesOver 100 = .ok (.iload 5, 2) := by decide +kernel
theorem dX10_goesOver_102 : decode cX10_goesOver 102 = .ok (.invokevirtual 297, 3) := by decide +kernel
theorem dX10_goesOver_105 : decode cX10_goesOver 105 = .ok (.aload_n 0, 1) := by decide +kernel
theorem dX10_goesOver_106 : decode cX10_goesOver 106 = .ok (.iload_n 1, 1) := by decide +kernel
theorem dX10_goesOver_107 : decode cX10_goesOver 107 = .ok (.invokevirtual 282, 3) := by decide +kernel
theorem dX10_goesOver_110 : decode cX10_goesOver 110 = .ok (.istore 6, 2) := by decide +kernel
theorem dX10_goesOver_112 : decode cX10_goesOver 112 = .ok (.aload_n 0, 1) := by decide +kernel
theorem dX10_goesOver_113 : decode cX10_goesOver 113 = .ok (.getfield 106, 3) := by decide +kernel
theorem dX10_goesOver_116 : decode cX10_goesOver 116 = .ok (.iload 6, 2) := by decide +kernel
theorem dX10_goesOver_118 : decode cX10_goesOver 118 = .ok (.baload, 1) := by decide +kernel
theorem dX10_goesOver_119 : decode cX10_goesOver 119 = .ok (.ifCond .ne 14, 3) := by decide +kernel
theorem dX10_goesOver_122 : decode cX10_goesOver 122 = .ok (.aload_n 0, 1) := by decide +kernel
theorem dX10_goesOver_123 : decode cX10_goesOver 123 = .ok (.iload 4, 2) := by decide +kernel
theorem dX10_goesOver_125 : decode cX10_goesOver 125 = .ok (.iload 5, 2) := by decide +kernel
theorem dX10_goesOver_127 : decode cX10_goesOver 127 = .ok (.iload 6, 2) := by decide +kernel
theorem dX10_goesOver_129 : decode cX10_goesOver 129 = .ok (.invokevirtual 350, 3) := by decide +kernel
theorem dX10_goesOver_132 : decode cX10_goesOver 132 = .ok (.ireturn, 1) := by decide +kernel
theorem dX10_goesOver_133 : decode cX10_goesOver 133 = .ok (.iinc 5 1, 3) := by decide +kernel
theorem dX10_goesOver_136 : decode cX10_goesOver 136 = .ok (.goto (-62), 3) := by decide +kernel
theorem dX10_goesOver_139 : decode cX10_goesOver 139 = .ok (.iinc 4 1, 3) := by decide +kernel
theorem dX10_goesOver_142 : decode cX10_goesOver 142 = .ok (.goto (-114), 3) := by decide +kernel
theorem dX10_goesOver_145 : decode cX10_goesOver 145 = .ok (.aload_n 0, 1) := by decide +kernel
theorem dX10_goesOver_146 : decode cX10_goesOver 146 = .ok (.iconst (-1), 1) := by decide +kernel
theorem dX10_goesOver_147 : decode cX10_goesOver 147 = .ok (.iconst (-1), 1) := by decide +kernel
theorem dX10_goesOver_148 : decode cX10_goesOver 148 = .ok (.iconst (-1), 1) := by decide +kernel
theorem dX10_goesOver_149 : decode cX10_goesOver 149 = .ok (.invokevirtual 350, 3) := by decide +kernel
theorem dX10_goesOver_152 : decode cX10_goesOver 152 = .ok (.ireturn, 1) := by decide +kernel
theorem dX10_shows_0 : decode cX10_shows 0 = .ok (.iload_n 1, 1) := by decide +kernel
theorem dX10_shows_1 : decode cX10_shows 1 = .ok (.invokestatic 167, 3) := by decide +kernel
theorem dX10_shows_4 : decode cX10_shows 4 = .ok (.ifCond .ne 10, 3) := by decide +kernel
theorem dX10_shows_7 : decode cX10_shows 7 = .ok (.aload_n 0, 1) := by decide +kernel
theorem dX10_shows_8 : decode cX10_shows 8 = .ok (.bipush (-2), 2) := by decide +kernel
theorem dX10_shows_10 : decode cX10_shows 10 = .ok (.invokevirtual 173, 3) := by decide +kernel
theorem dX10_shows_13 : decode cX10_shows 13 = .ok (.ireturn, 1) := by decide +kernel
theorem dX10_shows_14 : decode cX10_shows 14 = .ok (.aload_n 0, 1) := by decide +kernel
theorem dX10_shows_15 : decode cX10_shows 15 = .ok (.iload_n 1, 1) := by decide +kernel
theorem dX10_shows_16 : decode cX10_shows 16 = .ok (.invokevirtual 282, 3) := by decide +kernel
theorem dX10_shows_19 : decode cX10_shows 19 = .ok (.istore_n 2, 1) := by decide +kernel
theorem dX10_shows_20 : decode cX10_shows 20 = .ok (.aload_n 0, 1) := by decide +kernel
theorem dX10_shows_21 : decode cX10_shows 21 = .ok (.iconst 1, 1) := by decide +kernel
theorem dX10_shows_22 : decode cX10_shows 22 = .ok (.putfield 134, 3) := by decide +kernel
theorem dX10_shows_25 : decode cX10_shows 25 = .ok (.aload_n 0, 1) := by decide +kernel
theorem dX10_shows_26 : decode cX10_shows 26 = .ok (.iload_n 1, 1) := by decide +kernel
theorem dX10_shows_27 : decode cX10_shows 27 = .ok (.iload_n 2, 1) := by decide +kernel
theorem dX10_shows_28 : decode cX10_shows 28 = .ok (.invokevirtual 354, 3) := by decide +kernel
theorem dX10_shows_31 : decode cX10_shows 31 = .ok (.istore_n 3, 1) := by decide +kernel
theorem dX10_shows_32 : decode cX10_shows 32 = .ok (.aload_n 0, 1) := by decide +kernel
theorem dX10_shows_33 : decode cX10_shows 33 = .ok (.iconst 0, 1) := by decide +kernel
theorem dX10_shows_34 : decode cX10_shows 34 = .ok (.putfield 134, 3) := by decide +kernel
theorem dX10_shows_37 : decode cX10_shows 37 = .ok (.aload_n 0, 1) := by decide +kernel
theorem dX10_shows_38 : decode cX10_shows 38 = .ok (.iload_n 1, 1) := by decide +kernel
theorem dX10_shows_39 : decode cX10_shows 39 = .ok (.iload_n 2, 1) := by decide +kernel
theorem dX10_shows_40 : decode cX10_shows 40 = .ok (.invokevirtual 285, 3) := by decide +kernel
theorem dX10_shows_43 : decode cX10_shows 43 = .ok (.aload_n 0, 1) := by decide +kernel
theorem dX10_shows_44 : decode cX10_shows 44 = .ok (.iload_n 3, 1) := by decide +kernel
theorem dX10_shows_45 : decode cX10_shows 45 = .ok (.invokevirtual 183, 3) := by decide +kernel
theorem dX10_shows_48 : decode cX10_shows 48 = .ok (.ireturn, 1) := by decide +kernel
theorem dX10_shown_0 : decode cX10_shown 0 = .ok (.iload_n 1, 1) := by decide +kernel
theorem dX10_shown_1 : decode cX10_shown 1 = .ok (.i2l, 1) := by decide +kernel
theorem dX10_shown_2 : decode cX10_shown 2 = .ok (.lconst 0, 1) := by decide +kernel
theorem dX10_shown_3 : decode cX10_shown 3 = .ok (.ldc2_w 150, 3) := by decide +kernel
theorem dX10_shown_6 : decode cX10_shown 6 = .ok (.invokestatic 152, 3) := by decide +kernel
theorem dX10_shown_9 : decode cX10_shown 9 = .ok (.ifCond .ne 12, 3) := by decide +kernel
theorem dX10_shown_12 : decode cX10_shown 12 = .ok (.aload_n 0, 1) := by decide +kernel
theorem dX10_shown_13 : decode cX10_shown 13 = .ok (.bipush (-2), 2) := by decide +kernel
theorem dX10_shown_15 : decode cX10_shown 15 = .ok (.invokevirtual 173, 3) := by decide +kernel
theorem dX10_shown_18 : decode cX10_shown 18 = .ok (.goto 34, 3) := by decide +kernel
theorem dX10_shown_21 : decode cX10_shown 21 = .ok (.aload_n 0, 1) := by decide +kernel
theorem dX10_shown_22 : decode cX10_shown 22 = .ok (.iload_n 1, 1) := by decide +kernel
theorem dX10_shown_23 : decode cX10_shown 23 = .ok (.ifCond .ne 10, 3) := by decide +kernel
theorem dX10_shown_26 : decode cX10_shown 26 = .ok (.aload_n 0, 1) := by decide +kernel
theorem dX10_shown_27 : decode cX10_shown 27 = .ok (.getfield 109, 3) := by decide +kernel
theorem dX10_shown_30 : decode cX10_shown 30 = .ok (.goto 19, 3) := by decide +kernel
theorem dX10_shown_33 : decode cX10_shown 33 = .ok (.iload_n 1, 1) := by decide +kernel
theorem dX10_shown_34 : decode cX10_shown 34 = .ok (.iconst 1, 1) := by decide +kernel
theorem dX10_shown_35 : decode cX10_shown 35 = .ok (.if_icmp .ne 10, 3) := by decide +kernel
theorem dX10_shown_38 : decode cX10_shown 38 = .ok (.aload_n 0, 1) := by decide +kernel
theorem dX10_shown_39 : decode cX10_shown 39 = .ok (.getfield 112, 3) := by decide +kernel
theorem dX10_shown_42 : decode cX10_shown 42 = .ok (.goto 7, 3) := by decide +kernel
theorem dX10_shown_45 : decode cX10_shown 45 = .ok (.aload_n 0, 1) := by decide +kernel
theorem dX10_shown_46 : decode cX10_shown 46 = .ok (.getfield 115, 3) := by decide +kernel
theorem dX10_shown_49 : decode cX10_shown 49 = .ok (.invokevirtual 183, 3) := by decide +kernel
theorem dX10_shown_52 : decode cX10_shown 52 = .ok (.ireturn, 1) := by decide +kernel
theorem dX10_writesOut_0 : decode cX10_writesOut 0 = .ok (.iconst 0, 1) := by decide +kernel
theorem dX10_writesOut_1 : decode cX10_writesOut 1 = .ok (.istore_n 2, 1) := by decide +kernel
theorem dX10_writesOut_2 : decode cX10_writesOut 2 = .ok (.iconst 0, 1) := by decide +kernel
theorem dX10_writesOut_3 : decode cX10_writesOut 3 = .ok (.istore_n 3, 1) := by decide +kernel
theorem dX10_writesOut_4 : decode cX10_writesOut 4 = .ok (.iload_n 3, 1) := by decide +kernel
theorem dX10_writesOut_5 : decode cX10_writesOut 5 = .ok (.iconst 4, 1) := by decide +kernel
theorem dX10_writesOut_6 : decode cX10_writesOut 6 = .ok (.if_icmp .ge 148, 3) := by decide +kernel
theorem dX10_writesOut_9 : decode cX10_writesOut 9 = .ok (.aload_n 0, 1) := by decide +kernel
theorem dX10_writesOut_10 : decode cX10_writesOut 10 = .ok (.getfield 7, 3) := by decide +kernel
theorem dX10_writesOut_13 : decode cX10_writesOut 13 = .ok (.iconst 4, 1) := by decide +kernel
theorem dX10_writesOut_14 : decode cX10_writesOut 14 = .ok (.iload_n 1, 1) := by decide +kernel
theorem dX10_writesOut_15 : decode cX10_writesOut 15 = .ok (.imul, 1) := by decide +kernel
theorem dX10_writesOut_16 : decode cX10_writesOut 16 = .ok (.iload_n 3, 1) := by decide +kernel
theorem dX10_writesOut_17 : decode cX10_writesOut 17 = .ok (.iadd, 1) := by decide +kernel
theorem dX10_writesOut_18 : decode cX10_writesOut 18 = .ok (.iaload, 1) := by decide +kernel
theorem dX10_writesOut_19 : decode cX10_writesOut 19 = .ok (.istore 4, 2) := by decide +kernel
theorem dX10_writesOut_21 : decode cX10_writesOut 21 = .ok (.aload_n 0, 1) := by decide +kernel
theorem dX10_writesOut_22 : decode cX10_writesOut 22 = .ok (.getfield 118, 3) := by decide +kernel
theorem dX10_writesOut_25 : decode cX10_writesOut 25 = .ok (.iload_n 2, 1) := by decide +kernel
theorem dX10_writesOut_26 : decode cX10_writesOut 26 = .ok (.iload 4, 2) := by decide +kernel
theorem dX10_writesOut_28 : decode cX10_writesOut 28 = .ok (.iconst (-1), 1) := by decide +kernel
theorem dX10_writesOut_29 : decode cX10_writesOut 29 = .ok (.if_icmp .ne 9, 3) := by decide +kernel
theorem dX10_writesOut_32 : decode cX10_writesOut 32 = .ok (.sipush 255, 3) := by decide +kernel
theorem dX10_writesOut_35 : decode cX10_writesOut 35 = .ok (.goto 5, 3) := by decide +kernel
theorem dX10_writesOut_38 : decode cX10_writesOut 38 = .ok (.iload 4, 2) := by decide +kernel
theorem dX10_writesOut_40 : decode cX10_writesOut 40 = .ok (.iastore, 1) := by decide +kernel
theorem dX10_writesOut_41 : decode cX10_writesOut 41 = .ok (.iinc 2 1, 3) := by decide +kernel
theorem dX10_writesOut_44 : decode cX10_writesOut 44 = .ok (.iconst 0, 1) := by decide +kernel
theorem dX10_writesOut_45 : decode cX10_writesOut 45 = .ok (.istore 5, 2) := by decide +kernel
theorem dX10_writesOut_47 : decode cX10_writesOut 47 = .ok (.iload 5, 2) := by decide +kernel
theorem dX10_writesOut_49 : decode cX10_writesOut 49 = .ok (.iload 4, 2) := by decide +kernel
theorem dX10_writesOut_51 : decode cX10_writesOut 51 = .ok (.if_icmp .ge 97, 3) := by decide +kernel
theorem dX10_writesOut_54 : decode cX10_writesOut 54 = .ok (.bipush 16, 2) := by decide +kernel
theorem dX10_writesOut_56 : decode cX10_writesOut 56 = .ok (.iload_n 1, 1) := by decide +kernel
theorem dX10_writesOut_57 : decode cX10_writesOut 57 = .ok (.imul, 1) := by decide +kernel
theorem dX10_writesOut_58 : decode cX10_writesOut 58 = .ok (.iconst 4, 1) := by decide +kernel
theorem dX10_writesOut_59 : decode cX10_writesOut 59 = .ok (.iload_n 3, 1) := by decide +kernel
theorem dX10_writesOut_60 : decode cX10_writesOut 60 = .ok (.imul, 1) := by decide +kernel
theorem dX10_writesOut_61 : decode cX10_writesOut 61 = .ok (.iadd, 1) := by decide +kernel
theorem dX10_writesOut_62 : decode cX10_writesOut 62 = .ok (.iload 5, 2) := by decide +kernel
theorem dX10_writesOut_64 : decode cX10_writesOut 64 = .ok (.iadd, 1) := by decide +kernel
theorem dX10_writesOut_65 : decode cX10_writesOut 65 = .ok (.istore 6, 2) := by decide +kernel
theorem dX10_writesOut_67 : decode cX10_writesOut 67 = .ok (.aload_n 0, 1) := by decide +kernel
theorem dX10_writesOut_68 : decode cX10_writesOut 68 = .ok (.getfield 118, 3) := by decide +kernel
theorem dX10_writesOut_71 : decode cX10_writesOut 71 = .ok (.iload_n 2, 1) := by decide +kernel
theorem dX10_writesOut_72 : decode cX10_writesOut 72 = .ok (.aload_n 0, 1) := by decide +kernel
theorem dX10_writesOut_73 : decode cX10_writesOut 73 = .ok (.getfield 13, 3) := by decide +kernel
theorem dX10_writesOut_76 : decode cX10_writesOut 76 = .ok (.iload 6, 2) := by decide +kernel
theorem dX10_writesOut_78 : decode cX10_writesOut 78 = .ok (.iaload, 1) := by decide +kernel
theorem dX10_writesOut_79 : decode cX10_writesOut 79 = .ok (.iconst 1, 1) := by decide +kernel
theorem dX10_writesOut_80 : decode cX10_writesOut 80 = .ok (.iadd, 1) := by decide +kernel
theorem dX10_writesOut_81 : decode cX10_writesOut 81 = .ok (.iastore, 1) := by decide +kernel
theorem dX10_writesOut_82 : decode cX10_writesOut 82 = .ok (.iinc 2 1, 3) := by decide +kernel
theorem dX10_writesOut_85 : decode cX10_writesOut 85 = .ok (.aload_n 0, 1) := by decide +kernel
theorem dX10_writesOut_86 : decode cX10_writesOut 86 = .ok (.getfield 13, 3) := by decide +kernel
theorem dX10_writesOut_89 : decode cX10_writesOut 89 = .ok (.iload 6, 2) := by decide +kernel
theorem dX10_writesOut_91 : decode cX10_writesOut 91 = .ok (.iaload, 1) := by decide +kernel
theorem dX10_writesOut_92 : decode cX10_writesOut 92 = .ok (.iconst (-1), 1) := by decide +kernel
theorem dX10_writesOut_93 : decode cX10_writesOut 93 = .ok (.if_icmp .eq 49, 3) := by decide +kernel
theorem dX10_writesOut_96 : decode cX10_writesOut 96 = .ok (.aload_n 0, 1) := by decide +kernel
theorem dX10_writesOut_97 : decode cX10_writesOut 97 = .ok (.getfield 118, 3) := by decide +kernel
theorem dX10_writesOut_100 : decode cX10_writesOut 100 = .ok (.iload_n 2, 1) := by decide +kernel
theorem dX10_writesOut_101 : decode cX10_writesOut 101 = .ok (.aload_n 0, 1) := by decide +kernel
theorem dX10_writesOut_102 : decode cX10_writesOut 102 = .ok (.getfield 16, 3) := by decide +kernel
theorem dX10_writesOut_105 : decode cX10_writesOut 105 = .ok (.iload 6, 2) := by decide +kernel
theorem dX10_writesOut_107 : decode cX10_writesOut 107 = .ok (.iaload, 1) := by decide +kernel
theorem dX10_writesOut_108 : decode cX10_writesOut 108 = .ok (.iastore, 1) := by decide +kernel
theorem dX10_writesOut_109 : decode cX10_writesOut 109 = .ok (.aload_n 0, 1) := by decide +kernel
theorem dX10_writesOut_110 : decode cX10_writesOut 110 = .ok (.getfield 118, 3) := by decide +kernel
theorem dX10_writesOut_113 : decode cX10_writesOut 113 = .ok (.iload_n 2, 1) := by decide +kernel
theorem dX10_writesOut_114 : decode cX10_writesOut 114 = .ok (.iconst 1, 1) := by decide +kernel
theorem dX10_writesOut_115 : decode cX10_writesOut 115 = .ok (.iadd, 1) := by decide +kernel
theorem dX10_writesOut_116 : decode cX10_writesOut 116 = .ok (.aload_n 0, 1) := by decide +kernel
theorem dX10_writesOut_117 : decode cX10_writesOut 117 = .ok (.getfield 19, 3) := by decide +kernel
theorem dX10_writesOut_120 : decode cX10_writesOut 120 = .ok (.iload 6, 2) := by decide +kernel
theorem dX10_writesOut_122 : decode cX10_writesOut 122 = .ok (.iaload, 1) := by decide +kernel
theorem dX10_writesOut_123 : decode cX10_writesOut 123 = .ok (.iastore, 1) := by decide +kernel
theorem dX10_writesOut_124 : decode cX10_writesOut 124 = .ok (.aload_n 0, 1) := by decide +kernel
theorem dX10_writesOut_125 : decode cX10_writesOut 125 = .ok (.getfield 118, 3) := by decide +kernel
theorem dX10_writesOut_128 : decode cX10_writesOut 128 = .ok (.iload_n 2, 1) := by decide +kernel
theorem dX10_writesOut_129 : decode cX10_writesOut 129 = .ok (.iconst 2, 1) := by decide +kernel
theorem dX10_writesOut_130 : decode cX10_writesOut 130 = .ok (.iadd, 1) := by decide +kernel
theorem dX10_writesOut_131 : decode cX10_writesOut 131 = .ok (.aload_n 0, 1) := by decide +kernel
theorem dX10_writesOut_132 : decode cX10_writesOut 132 = .ok (.getfield 22, 3) := by decide +kernel
theorem dX10_writesOut_135 : decode cX10_writesOut 135 = .ok (.iload 6, 2) := by decide +kernel
theorem dX10_writesOut_137 : decode cX10_writesOut 137 = .ok (.iaload, 1) := by decide +kernel
theorem dX10_writesOut_138 : decode cX10_writesOut 138 = .ok (.iastore, 1) := by decide +kernel
theorem dX10_writesOut_139 : decode cX10_writesOut 139 = .ok (.iinc 2 3, 3) := by decide +kernel
theorem dX10_writesOut_142 : decode cX10_writesOut 142 = .ok (.iinc 5 1, 3) := by decide +kernel
theorem dX10_writesOut_145 : decode cX10_writesOut 145 = .ok (.goto (-98), 3) := by decide +kernel
theorem dX10_writesOut_148 : decode cX10_writesOut 148 = .ok (.iinc 3 1, 3) := by decide +kernel
theorem dX10_writesOut_151 : decode cX10_writesOut 151 = .ok (.goto (-147), 3) := by decide +kernel
theorem dX10_writesOut_154 : decode cX10_writesOut 154 = .ok (.aload_n 0, 1) := by decide +kernel
theorem dX10_writesOut_155 : decode cX10_writesOut 155 = .ok (.getfield 118, 3) := by decide +kernel
theorem dX10_writesOut_158 : decode cX10_writesOut 158 = .ok (.iload_n 2, 1) := by decide +kernel
theorem dX10_writesOut_159 : decode cX10_writesOut 159 = .ok (.aload_n 0, 1) := by decide +kernel
theorem dX10_writesOut_160 : decode cX10_writesOut 160 = .ok (.getfield 25, 3) := by decide +kernel
theorem dX10_writesOut_163 : decode cX10_writesOut 163 = .ok (.iload_n 1, 1) := by decide +kernel
theorem dX10_writesOut_164 : decode cX10_writesOut 164 = .ok (.iaload, 1) := by decide +kernel
theorem dX10_writesOut_165 : decode cX10_writesOut 165 = .ok (.iastore, 1) := by decide +kernel
theorem dX10_writesOut_166 : decode cX10_writesOut 166 = .ok (.iinc 2 1, 3) := by decide +kernel
theorem dX10_writesOut_169 : decode cX10_writesOut 169 = .ok (.bipush 40, 2) := by decide +kernel
theorem dX10_writesOut_171 : decode cX10_writesOut 171 = .ok (.iload_n 1, 1) := by decide +kernel
theorem dX10_writesOut_172 : decode cX10_writesOut 172 = .ok (.imul, 1) := by decide +kernel
theorem dX10_writesOut_173 : decode cX10_writesOut 173 = .ok (.istore_n 3, 1) := by decide +kernel
theorem dX10_writesOut_174 : decode cX10_writesOut 174 = .ok (.iload_n 3, 1) := by decide +kernel
theorem dX10_writesOut_175 : decode cX10_writesOut 175 = .ok (.bipush 40, 2) := by decide +kernel
theorem dX10_writesOut_177 : decode cX10_writesOut 177 = .ok (.iload_n 1, 1) := by decide +kernel
theorem dX10_writesOut_178 : decode cX10_writesOut 178 = .ok (.imul, 1) := by decide +kernel
theorem dX10_writesOut_179 : decode cX10_writesOut 179 = .ok (.aload_n 0, 1) := by decide +kernel
theorem dX10_writesOut_180 : decode cX10_writesOut 180 = .ok (.getfield 25, 3) := by decide +kernel
theorem dX10_writesOut_183 : decode cX10_writesOut 183 = .ok (.iload_n 1, 1) := by decide +kernel
theorem dX10_writesOut_184 : decode cX10_writesOut 184 = .ok (.iaload, 1) := by decide +kernel
theorem dX10_writesOut_185 : decode cX10_writesOut 185 = .ok (.iadd, 1) := by decide +kernel
theorem dX10_writesOut_186 : decode cX10_writesOut 186 = .ok (.if_icmp .ge 111, 3) := by decide +kernel
theorem dX10_writesOut_189 : decode cX10_writesOut 189 = .ok (.aload_n 0, 1) := by decide +kernel
theorem dX10_writesOut_190 : decode cX10_writesOut 190 = .ok (.getfield 118, 3) := by decide +kernel
theorem dX10_writesOut_193 : decode cX10_writesOut 193 = .ok (.iload_n 2, 1) := by decide +kernel
theorem dX10_writesOut_194 : decode cX10_writesOut 194 = .ok (.aload_n 0, 1) := by decide +kernel
theorem dX10_writesOut_195 : decode cX10_writesOut 195 = .ok (.getfield 28, 3) := by decide +kernel
theorem dX10_writesOut_198 : decode cX10_writesOut 198 = .ok (.iload_n 3, 1) := by decide +kernel
theorem dX10_writesOut_199 : decode cX10_writesOut 199 = .ok (.iaload, 1) := by decide +kernel
theorem dX10_writesOut_200 : decode cX10_writesOut 200 = .ok (.iconst 1, 1) := by decide +kernel
theorem dX10_writesOut_201 : decode cX10_writesOut 201 = .ok (.iadd, 1) := by decide +kernel
theorem dX10_writesOut_202 : decode cX10_writesOut 202 = .ok (.iastore, 1) := by decide +kernel
theorem dX10_writesOut_203 : decode cX10_writesOut 203 = .ok (.aload_n 0, 1) := by decide +kernel
theorem dX10_writesOut_204 : decode cX10_writesOut 204 = .ok (.getfield 118, 3) := by decide +kernel
theorem dX10_writesOut_207 : decode cX10_writesOut 207 = .ok (.iload_n 2, 1) := by decide +kernel
theorem dX10_writesOut_208 : decode cX10_writesOut 208 = .ok (.iconst 1, 1) := by decide +kernel
theorem dX10_writesOut_209 : decode cX10_writesOut 209 = .ok (.iadd, 1) := by decide +kernel
theorem dX10_writesOut_210 : decode cX10_writesOut 210 = .ok (.aload_n 0, 1) := by decide +kernel
theorem dX10_writesOut_211 : decode cX10_writesOut 211 = .ok (.getfield 31, 3) := by decide +kernel
theorem dX10_writesOut_214 : decode cX10_writesOut 214 = .ok (.iload_n 3, 1) := by decide +kernel
theorem dX10_writesOut_215 : decode cX10_writesOut 215 = .ok (.iaload, 1) := by decide +kernel
theorem dX10_writesOut_216 : decode cX10_writesOut 216 = .ok (.iastore, 1) := by decide +kernel
theorem dX10_writesOut_217 : decode cX10_writesOut 217 = .ok (.aload_n 0, 1) := by decide +kernel
theorem dX10_writesOut_218 : decode cX10_writesOut 218 = .ok (.getfield 118, 3) := by decide +kernel
theorem dX10_writesOut_221 : decode cX10_writesOut 221 = .ok (.iload_n 2, 1) := by decide +kernel
theorem dX10_writesOut_222 : decode cX10_writesOut 222 = .ok (.iconst 2, 1) := by decide +kernel
theorem dX10_writesOut_223 : decode cX10_writesOut 223 = .ok (.iadd, 1) := by decide +kernel
theorem dX10_writesOut_224 : decode cX10_writesOut 224 = .ok (.aload_n 0, 1) := by decide +kernel
theorem dX10_writesOut_225 : decode cX10_writesOut 225 = .ok (.getfield 34, 3) := by decide +kernel
theorem dX10_writesOut_228 : decode cX10_writesOut 228 = .ok (.iload_n 3, 1) := by decide +kernel
theorem dX10_writesOut_229 : decode cX10_writesOut 229 = .ok (.iaload, 1) := by decide +kernel
theorem dX10_writesOut_230 : decode cX10_writesOut 230 = .ok (.iconst (-1), 1) := by decide +kernel
theorem dX10_writesOut_231 : decode cX10_writesOut 231 = .ok (.if_icmp .ne 9, 3) := by decide +kernel
theorem dX10_writesOut_234 : decode cX10_writesOut 234 = .ok (.sipush 255, 3) := by decide +kernel
theorem dX10_writesOut_237 : decode cX10_writesOut 237 = .ok (.goto 9, 3) := by decide +kernel
theorem dX10_writesOut_240 : decode cX10_writesOut 240 = .ok (.aload_n 0, 1) := by decide +kernel
theorem dX10_writesOut_241 : decode cX10_writesOut 241 = .ok (.getfield 34, 3) := by decide +kernel
theorem dX10_writesOut_244 : decode cX10_writesOut 244 = .ok (.iload_n 3, 1) := by decide +kernel
theorem dX10_writesOut_245 : decode cX10_writesOut 245 = .ok (.iaload, 1) := by decide +kernel
theorem dX10_writesOut_246 : decode cX10_writesOut 246 = .ok (.iastore, 1) := by decide +kernel
theorem dX10_writesOut_247 : decode cX10_writesOut 247 = .ok (.iinc 2 3, 3) := by decide +kernel
theorem dX10_writesOut_250 : decode cX10_writesOut 250 = .ok (.iconst 0, 1) := by decide +kernel
theorem dX10_writesOut_251 : decode cX10_writesOut 251 = .ok (.istore 4, 2) := by decide +kernel
theorem dX10_writesOut_253 : decode cX10_writesOut 253 = .ok (.iload 4, 2) := by decide +kernel
theorem dX10_writesOut_255 : decode cX10_writesOut 255 = .ok (.aload_n 0, 1) := by decide +kernel
theorem dX10_writesOut_256 : decode cX10_writesOut 256 = .ok (.getfield 34, 3) := by decide +kernel
theorem dX10_writesOut_259 : decode cX10_writesOut 259 = .ok (.iload_n 3, 1) := by decide +kernel
theorem dX10_writesOut_260 : decode cX10_writesOut 260 = .ok (.iaload, 1) := by decide +kernel
theorem dX10_writesOut_261 : decode cX10_writesOut 261 = .ok (.if_icmp .ge 30, 3) := by decide +kernel
theorem dX10_writesOut_264 : decode cX10_writesOut 264 = .ok (.aload_n 0, 1) := by decide +kernel
theorem dX10_writesOut_265 : decode cX10_writesOut 265 = .ok (.getfield 118, 3) := by decide +kernel
theorem dX10_writesOut_268 : decode cX10_writesOut 268 = .ok (.iload_n 2, 1) := by decide +kernel
theorem dX10_writesOut_269 : decode cX10_writesOut 269 = .ok (.aload_n 0, 1) := by decide +kernel
theorem dX10_writesOut_270 : decode cX10_writesOut 270 = .ok (.getfield 37, 3) := by decide +kernel
theorem dX10_writesOut_273 : decode cX10_writesOut 273 = .ok (.bipush 6, 2) := by decide +kernel
theorem dX10_writesOut_275 : decode cX10_writesOut 275 = .ok (.iload_n 3, 1) := by decide +kernel
theorem dX10_writesOut_276 : decode cX10_writesOut 276 = .ok (.imul, 1) := by decide +kernel
theorem dX10_writesOut_277 : decode cX10_writesOut 277 = .ok (.iload 4, 2) := by decide +kernel
theorem dX10_writesOut_279 : decode cX10_writesOut 279 = .ok (.iadd, 1) := by decide +kernel
theorem dX10_writesOut_280 : decode cX10_writesOut 280 = .ok (.iaload, 1) := by decide +kernel
theorem dX10_writesOut_281 : decode cX10_writesOut 281 = .ok (.iastore, 1) := by decide +kernel
theorem dX10_writesOut_282 : decode cX10_writesOut 282 = .ok (.iinc 2 1, 3) := by decide +kernel
theorem dX10_writesOut_285 : decode cX10_writesOut 285 = .ok (.iinc 4 1, 3) := by decide +kernel
theorem dX10_writesOut_288 : decode cX10_writesOut 288 = .ok (.goto (-35), 3) := by decide +kernel
theorem dX10_writesOut_291 : decode cX10_writesOut 291 = .ok (.iinc 3 1, 3) := by decide +kernel
theorem dX10_writesOut_294 : decode cX10_writesOut 294 = .ok (.goto (-120), 3) := by decide +kernel
theorem dX10_writesOut_297 : decode cX10_writesOut 297 = .ok (.aload_n 0, 1) := by decide +kernel
theorem dX10_writesOut_298 : decode cX10_writesOut 298 = .ok (.getfield 118, 3) := by decide +kernel
theorem dX10_writesOut_301 : decode cX10_writesOut 301 = .ok (.iload_n 2, 1) := by decide +kernel
theorem dX10_writesOut_302 : decode cX10_writesOut 302 = .ok (.aload_n 0, 1) := by decide +kernel
theorem dX10_writesOut_303 : decode cX10_writesOut 303 = .ok (.getfield 40, 3) := by decide +kernel
theorem dX10_writesOut_306 : decode cX10_writesOut 306 = .ok (.iload_n 1, 1) := by decide +kernel
theorem dX10_writesOut_307 : decode cX10_writesOut 307 = .ok (.iaload, 1) := by decide +kernel
theorem dX10_writesOut_308 : decode cX10_writesOut 308 = .ok (.iastore, 1) := by decide +kernel
theorem dX10_writesOut_309 : decode cX10_writesOut 309 = .ok (.aload_n 0, 1) := by decide +kernel
theorem dX10_writesOut_310 : decode cX10_writesOut 310 = .ok (.getfield 118, 3) := by decide +kernel
theorem dX10_writesOut_313 : decode cX10_writesOut 313 = .ok (.iload_n 2, 1) := by decide +kernel
theorem dX10_writesOut_314 : decode cX10_writesOut 314 = .ok (.iconst 1, 1) := by decide +kernel
theorem dX10_writesOut_315 : decode cX10_writesOut 315 = .ok (.iadd, 1) := by decide +kernel
theorem dX10_writesOut_316 : decode cX10_writesOut 316 = .ok (.aload_n 0, 1) := by decide +kernel
theorem dX10_writesOut_317 : decode cX10_writesOut 317 = .ok (.getfield 43, 3) := by decide +kernel
theorem dX10_writesOut_320 : decode cX10_writesOut 320 = .ok (.iload_n 1, 1) := by decide +kernel
theorem dX10_writesOut_321 : decode cX10_writesOut 321 = .ok (.iaload, 1) := by decide +kernel
theorem dX10_writesOut_322 : decode cX10_writesOut 322 = .ok (.iconst 1, 1) := by decide +kernel
theorem dX10_writesOut_323 : decode cX10_writesOut 323 = .ok (.iadd, 1) := by decide +kernel
theorem dX10_writesOut_324 : decode cX10_writesOut 324 = .ok (.iastore, 1) := by decide +kernel
theorem dX10_writesOut_325 : decode cX10_writesOut 325 = .ok (.iinc 2 2, 3) := by decide +kernel
theorem dX10_writesOut_328 : decode cX10_writesOut 328 = .ok (.iconst 0, 1) := by decide +kernel
theorem dX10_writesOut_329 : decode cX10_writesOut 329 = .ok (.istore_n 3, 1) := by decide +kernel
theorem dX10_writesOut_330 : decode cX10_writesOut 330 = .ok (.iconst 0, 1) := by decide +kernel
theorem dX10_writesOut_331 : decode cX10_writesOut 331 = .ok (.istore 4, 2) := by decide +kernel
theorem dX10_writesOut_333 : decode cX10_writesOut 333 = .ok (.iload 4, 2) := by decide +kernel
theorem dX10_writesOut_335 : decode cX10_writesOut 335 = .ok (.iload_n 2, 1) := by decide +kernel
theorem dX10_writesOut_336 : decode cX10_writesOut 336 = .ok (.if_icmp .ge 19, 3) := by decide +kernel
theorem dX10_writesOut_339 : decode cX10_writesOut 339 = .ok (.iload_n 3, 1) := by decide +kernel
theorem dX10_writesOut_340 : decode cX10_writesOut 340 = .ok (.aload_n 0, 1) := by decide +kernel
theorem dX10_writesOut_341 : decode cX10_writesOut 341 = .ok (.getfield 118, 3) := by decide +kernel
theorem dX10_writesOut_344 : decode cX10_writesOut 344 = .ok (.iload 4, 2) := by decide +kernel
theorem dX10_writesOut_346 : decode cX10_writesOut 346 = .ok (.iaload, 1) := by decide +kernel
theorem dX10_writesOut_347 : decode cX10_writesOut 347 = .ok (.ixor, 1) := by decide +kernel
theorem dX10_writesOut_348 : decode cX10_writesOut 348 = .ok (.istore_n 3, 1) := by decide +kernel
theorem dX10_writesOut_349 : decode cX10_writesOut 349 = .ok (.iinc 4 1, 3) := by decide +kernel
theorem dX10_writesOut_352 : decode cX10_writesOut 352 = .ok (.goto (-19), 3) := by decide +kernel
theorem dX10_writesOut_355 : decode cX10_writesOut 355 = .ok (.aload_n 0, 1) := by decide +kernel
theorem dX10_writesOut_356 : decode cX10_writesOut 356 = .ok (.getfield 118, 3) := by decide +kernel
theorem dX10_writesOut_359 : decode cX10_writesOut 359 = .ok (.iload_n 2, 1) := by decide +kernel
theorem dX10_writesOut_360 : decode cX10_writesOut 360 = .ok (.iload_n 3, 1) := by decide +kernel
theorem dX10_writesOut_361 : decode cX10_writesOut 361 = .ok (.iastore, 1) := by decide +kernel
theorem dX10_writesOut_362 : decode cX10_writesOut 362 = .ok (.iload_n 2, 1) := by decide +kernel
theorem dX10_writesOut_363 : decode cX10_writesOut 363 = .ok (.iconst 1, 1) := by decide +kernel
theorem dX10_writesOut_364 : decode cX10_writesOut 364 = .ok (.iadd, 1) := by decide +kernel
theorem dX10_writesOut_365 : decode cX10_writesOut 365 = .ok (.ireturn, 1) := by decide +kernel
theorem dX10_alike_0 : decode cX10_alike 0 = .ok (.iload_n 1, 1) := by decide +kernel
theorem dX10_alike_1 : decode cX10_alike 1 = .ok (.invokestatic 167, 3) := by decide +kernel
theorem dX10_alike_4 : decode cX10_alike 4 = .ok (.ifCond .eq 10, 3) := by decide +kernel
theorem dX10_alike_7 : decode cX10_alike 7 = .ok (.iload_n 2, 1) := by decide +kernel
theorem dX10_alike_8 : decode cX10_alike 8 = .ok (.invokestatic 167, 3) := by decide +kernel
theorem dX10_alike_11 : decode cX10_alike 11 = .ok (.ifCond .ne 6, 3) := by decide +kernel
theorem dX10_alike_14 : decode cX10_alike 14 = .ok (.bipush (-2), 2) := by decide +kernel
theorem dX10_alike_16 : decode cX10_alike 16 = .ok (.ireturn, 1) := by decide +kernel
theorem dX10_alike_17 : decode cX10_alike 17 = .ok (.aload_n 0, 1) := by decide +kernel
theorem dX10_alike_18 : decode cX10_alike 18 = .ok (.iload_n 1, 1) := by decide +kernel
theorem dX10_alike_19 : decode cX10_alike 19 = .ok (.invokevirtual 357, 3) := by decide +kernel
theorem dX10_alike_22 : decode cX10_alike 22 = .ok (.istore_n 3, 1) := by decide +kernel
theorem dX10_alike_23 : decode cX10_alike 23 = .ok (.iconst 0, 1) := by decide +kernel
theorem dX10_alike_24 : decode cX10_alike 24 = .ok (.istore 4, 2) := by decide +kernel
theorem dX10_alike_26 : decode cX10_alike 26 = .ok (.iload 4, 2) := by decide +kernel
theorem dX10_alike_28 : decode cX10_alike 28 = .ok (.iload_n 3, 1) := by decide +kernel
theorem dX10_alike_29 : decode cX10_alike 29 = .ok (.if_icmp .ge 23, 3) := by decide +kernel
theorem dX10_alike_32 : decode cX10_alike 32 = .ok (.aload_n 0, 1) := by decide +kernel
theorem dX10_alike_33 : decode cX10_alike 33 = .ok (.getfield 121, 3) := by decide +kernel
theorem dX10_alike_36 : decode cX10_alike 36 = .ok (.iload 4, 2) := by decide +kernel
theorem dX10_alike_38 : decode cX10_alike 38 = .ok (.aload_n 0, 1) := by decide +kernel
theorem dX10_alike_39 : decode cX10_alike 39 = .ok (.getfield 118, 3) := by decide +kernel
theorem dX10_alike_42 : decode cX10_alike 42 = .ok (.iload 4, 2) := by decide +kernel
theorem dX10_alike_44 : decode cX10_alike 44 = .ok (.iaload, 1) := by decide +kernel
theorem dX10_alike_45 : decode cX10_alike 45 = .ok (.iastore, 1) := by decide +kernel
theorem dX10_alike_46 : decode cX10_alike 46 = .ok (.iinc 4 1, 3) := by decide +kernel
theorem dX10_alike_49 : decode cX10_alike 49 = .ok (.goto (-23), 3) := by decide +kernel
theorem dX10_alike_52 : decode cX10_alike 52 = .ok (.aload_n 0, 1) := by decide +kernel
theorem dX10_alike_53 : decode cX10_alike 53 = .ok (.iload_n 2, 1) := by decide +kernel
theorem dX10_alike_54 : decode cX10_alike 54 = .ok (.invokevirtual 357, 3) := by decide +kernel
theorem dX10_alike_57 : decode cX10_alike 57 = .ok (.iload_n 3, 1) := by decide +kernel
theorem dX10_alike_58 : decode cX10_alike 58 = .ok (.if_icmp .ne 7, 3) := by decide +kernel
theorem dX10_alike_61 : decode cX10_alike 61 = .ok (.iconst 1, 1) := by decide +kernel
theorem dX10_alike_62 : decode cX10_alike 62 = .ok (.goto 4, 3) := by decide +kernel
theorem dX10_alike_65 : decode cX10_alike 65 = .ok (.iconst 0, 1) := by decide +kernel
theorem dX10_alike_66 : decode cX10_alike 66 = .ok (.istore 4, 2) := by decide +kernel
theorem dX10_alike_68 : decode cX10_alike 68 = .ok (.iconst 0, 1) := by decide +kernel
theorem dX10_alike_69 : decode cX10_alike 69 = .ok (.istore 5, 2) := by decide +kernel
theorem dX10_alike_71 : decode cX10_alike 71 = .ok (.iload 5, 2) := by decide +kernel
theorem dX10_alike_73 : decode cX10_alike 73 = .ok (.iload_n 3, 1) := by decide +kernel
theorem dX10_alike_74 : decode cX10_alike 74 = .ok (.if_icmp .ge 38, 3) := by decide +kernel
theorem dX10_alike_77 : decode cX10_alike 77 = .ok (.iload 4, 2) := by decide +kernel
theorem dX10_alike_79 : decode cX10_alike 79 = .ok (.ifCond .eq 33, 3) := by decide +kernel
theorem dX10_alike_82 : decode cX10_alike 82 = .ok (.aload_n 0, 1) := by decide +kernel
theorem dX10_alike_83 : decode cX10_alike 83 = .ok (.getfield 121, 3) := by decide +kernel
theorem dX10_alike_86 : decode cX10_alike 86 = .ok (.iload 5, 2) := by decide +kernel
theorem dX10_alike_88 : decode cX10_alike 88 = .ok (.iaload, 1) := by decide +kernel
theorem dX10_alike_89 : decode cX10_alike 89 = .ok (.aload_n 0, 1) := by decide +kernel
theorem dX10_alike_90 : decode cX10_alike 90 = .ok (.getfield 118, 3) := by decide +kernel
theorem dX10_alike_93 : decode cX10_alike 93 = .ok (.iload 5, 2) := by decide +kernel
theorem dX10_alike_95 : decode cX10_alike 95 = .ok (.iaload, 1) := by decide +kernel
theorem dX10_alike_96 : decode cX10_alike 96 = .ok (.if_icmp .ne 7, 3) := by decide +kernel
theorem dX10_alike_99 : decode cX10_alike 99 = .ok (.iconst 1, 1) := by decide +kernel
theorem dX10_alike_100 : decode cX10_alike 100 = .ok (.goto 4, 3) := by decide +kernel
theorem dX10_alike_103 : decode cX10_alike 103 = .ok (.iconst 0, 1) := by decide +kernel
theorem dX10_alike_104 : decode cX10_alike 104 = .ok (.istore 4, 2) := by decide +kernel
theorem dX10_alike_106 : decode cX10_alike 106 = .ok (.iinc 5 1, 3) := by decide +kernel
theorem dX10_alike_109 : decode cX10_alike 109 = .ok (.goto (-38), 3) := by decide +kernel
theorem dX10_alike_112 : decode cX10_alike 112 = .ok (.iload 4, 2) := by decide +kernel
theorem dX10_alike_114 : decode cX10_alike 114 = .ok (.ifCond .eq 7, 3) := by decide +kernel
theorem dX10_alike_117 : decode cX10_alike 117 = .ok (.iconst 1, 1) := by decide +kernel
theorem dX10_alike_118 : decode cX10_alike 118 = .ok (.goto 4, 3) := by decide +kernel
theorem dX10_alike_121 : decode cX10_alike 121 = .ok (.iconst 0, 1) := by decide +kernel
theorem dX10_alike_122 : decode cX10_alike 122 = .ok (.ireturn, 1) := by decide +kernel
theorem dX10_export_0 : decode cX10_export 0 = .ok (.iload_n 1, 1) := by decide +kernel
theorem dX10_export_1 : decode cX10_export 1 = .ok (.invokestatic 167, 3) := by decide +kernel
theorem dX10_export_4 : decode cX10_export 4 = .ok (.ifCond .ne 6, 3) := by decide +kernel
theorem dX10_export_7 : decode cX10_export 7 = .ok (.bipush (-2), 2) := by decide +kernel
theorem dX10_export_9 : decode cX10_export 9 = .ok (.ireturn, 1) := by decide +kernel
theorem dX10_export_10 : decode cX10_export 10 = .ok (.aload_n 0, 1) := by decide +kernel
theorem dX10_export_11 : decode cX10_export 11 = .ok (.aload_n 0, 1) := by decide +kernel
theorem dX10_export_12 : decode cX10_export 12 = .ok (.iload_n 1, 1) := by decide +kernel
theorem dX10_export_13 : decode cX10_export 13 = .ok (.invokevirtual 357, 3) := by decide +kernel
theorem dX10_export_16 : decode cX10_export 16 = .ok (.putfield 360, 3) := by decide +kernel
theorem dX10_export_19 : decode cX10_export 19 = .ok (.iconst 0, 1) := by decide +kernel
theorem dX10_export_20 : decode cX10_export 20 = .ok (.istore_n 2, 1) := by decide +kernel
theorem dX10_export_21 : decode cX10_export 21 = .ok (.iload_n 2, 1) := by decide +kernel
theorem dX10_export_22 : decode cX10_export 22 = .ok (.aload_n 0, 1) := by decide +kernel
theorem dX10_export_23 : decode cX10_export 23 = .ok (.getfield 360, 3) := by decide +kernel
theorem dX10_export_26 : decode cX10_export 26 = .ok (.if_icmp .ge 21, 3) := by decide +kernel
theorem dX10_export_29 : decode cX10_export 29 = .ok (.aload_n 0, 1) := by decide +kernel
theorem dX10_export_30 : decode cX10_export 30 = .ok (.getfield 124, 3) := by decide +kernel
theorem dX10_export_33 : decode cX10_export 33 = .ok (.iload_n 2, 1) := by decide +kernel
theorem dX10_export_34 : decode cX10_export 34 = .ok (.aload_n 0, 1) := by decide +kernel
theorem dX10_export_35 : decode cX10_export 35 = .ok (.getfield 118, 3) := by decide +kernel
theorem dX10_export_38 : decode cX10_export 38 = .ok (.iload_n 2, 1) := by decide +kernel
theorem dX10_export_39 : decode cX10_export 39 = .ok (.iaload, 1) := by decide +kernel
theorem dX10_export_40 : decode cX10_export 40 = .ok (.iastore, 1) := by decide +kernel
theorem dX10_export_41 : decode cX10_export 41 = .ok (.iinc 2 1, 3) := by decide +kernel
theorem dX10_export_44 : decode cX10_export 44 = .ok (.goto (-23), 3) := by decide +kernel
theorem dX10_export_47 : decode cX10_export 47 = .ok (.aload_n 0, 1) := by decide +kernel
theorem dX10_export_48 : decode cX10_export 48 = .ok (.getfield 360, 3) := by decide +kernel
theorem dX10_export_51 : decode cX10_export 51 = .ok (.ireturn, 1) := by decide +kernel
theorem dX10_out_0 : decode cX10_out 0 = .ok (.iload_n 1, 1) := by decide +kernel
theorem dX10_out_1 : decode cX10_out 1 = .ok (.i2l, 1) := by decide +kernel
theorem dX10_out_2 : decode cX10_out 2 = .ok (.lconst 0, 1) := by decide +kernel
theorem dX10_out_3 : decode cX10_out 3 = .ok (.aload_n 0, 1) := by decide +kernel
theorem dX10_out_4 : decode cX10_out 4 = .ok (.getfield 360, 3) := by decide +kernel
theorem dX10_out_7 : decode cX10_out 7 = .ok (.iconst 1, 1) := by decide +kernel
theorem dX10_out_8 : decode cX10_out 8 = .ok (.isub, 1) := by decide +kernel
theorem dX10_out_9 : decode cX10_out 9 = .ok (.i2l, 1) := by decide +kernel
theorem dX10_out_10 : decode cX10_out 10 = .ok (.invokestatic 152, 3) := by decide +kernel
theorem dX10_out_13 : decode cX10_out 13 = .ok (.ifCond .eq 12, 3) := by decide +kernel
theorem dX10_out_16 : decode cX10_out 16 = .ok (.aload_n 0, 1) := by decide +kernel
theorem dX10_out_17 : decode cX10_out 17 = .ok (.getfield 124, 3) := by decide +kernel
theorem dX10_out_20 : decode cX10_out 20 = .ok (.iload_n 1, 1) := by decide +kernel
theorem dX10_out_21 : decode cX10_out 21 = .ok (.iaload, 1) := by decide +kernel
theorem dX10_out_22 : decode cX10_out 22 = .ok (.goto 4, 3) := by decide +kernel
theorem dX10_out_25 : decode cX10_out 25 = .ok (.iconst (-1), 1) := by decide +kernel
theorem dX10_out_26 : decode cX10_out 26 = .ok (.ireturn, 1) := by decide +kernel
theorem dX10_digest_0 : decode cX10_digest 0 = .ok (.iload_n 1, 1) := by decide +kernel
theorem dX10_digest_1 : decode cX10_digest 1 = .ok (.invokestatic 167, 3) := by decide +kernel
theorem dX10_digest_4 : decode cX10_digest 4 = .ok (.ifCond .ne 5, 3) := by decide +kernel
theorem dX10_digest_7 : decode cX10_digest 7 = .ok (.lconst 0, 1) := by decide +kernel
theorem dX10_digest_8 : decode cX10_digest 8 = .ok (.lreturn, 1) := by decide +kernel
theorem dX10_digest_9 : decode cX10_digest 9 = .ok (.ldc2_w 363, 3) := by decide +kernel
theorem dX10_digest_12 : decode cX10_digest 12 = .ok (.lstore_n 2, 1) := by decide +kernel
theorem dX10_digest_13 : decode cX10_digest 13 = .ok (.aload_n 0, 1) := by decide +kernel
theorem dX10_digest_14 : decode cX10_digest 14 = .ok (.iload_n 1, 1) := by decide +kernel
theorem dX10_digest_15 : decode cX10_digest 15 = .ok (.invokevirtual 357, 3) := by decide +kernel
theorem dX10_digest_18 : decode cX10_digest 18 = .ok (.istore 4, 2) := by decide +kernel
theorem dX10_digest_20 : decode cX10_digest 20 = .ok (.iconst 0, 1) := by decide +kernel
theorem dX10_digest_21 : decode cX10_digest 21 = .ok (.istore 5, 2) := by decide +kernel
theorem dX10_digest_23 : decode cX10_digest 23 = .ok (.iload 5, 2) := by decide +kernel
theorem dX10_digest_25 : decode cX10_digest 25 = .ok (.iload 4, 2) := by decide +kernel
theorem dX10_digest_27 : decode cX10_digest 27 = .ok (.if_icmp .ge 24, 3) := by decide +kernel
theorem dX10_digest_30 : decode cX10_digest 30 = .ok (.lload_n 2, 1) := by decide +kernel
theorem dX10_digest_31 : decode cX10_digest 31 = .ok (.aload_n 0, 1) := by decide +kernel
theorem dX10_digest_32 : decode cX10_digest 32 = .ok (.getfield 118, 3) := by decide +kernel
theorem dX10_digest_35 : decode cX10_digest 35 = .ok (.iload 5, 2) := by decide +kernel
theorem dX10_digest_37 : decode cX10_digest 37 = .ok (.iaload, 1) := by decide +kernel
theorem dX10_digest_38 : decode cX10_digest 38 = .ok (.i2l, 1) := by decide +kernel
theorem dX10_digest_39 : decode cX10_digest 39 = .ok (.lxor, 1) := by decide +kernel
theorem dX10_digest_40 : decode cX10_digest 40 = .ok (.ldc2_w 365, 3) := by decide +kernel
theorem dX10_digest_43 : decode cX10_digest 43 = .ok (.lmul, 1) := by decide +kernel
theorem dX10_digest_44 : decode cX10_digest 44 = .ok (.lstore_n 2, 1) := by decide +kernel
theorem dX10_digest_45 : decode cX10_digest 45 = .ok (.iinc 5 1, 3) := by decide +kernel
theorem dX10_digest_48 : decode cX10_digest 48 = .ok (.goto (-25), 3) := by decide +kernel
theorem dX10_digest_51 : decode cX10_digest 51 = .ok (.lload_n 2, 1) := by decide +kernel
theorem dX10_digest_52 : decode cX10_digest 52 = .ok (.lreturn, 1) := by decide +kernel
theorem dX10_trace_0 : decode cX10_trace 0 = .ok (.iload_n 1, 1) := by decide +kernel
theorem dX10_trace_1 : decode cX10_trace 1 = .ok (.i2l, 1) := by decide +kernel
theorem dX10_trace_2 : decode cX10_trace 2 = .ok (.lconst 0, 1) := by decide +kernel
theorem dX10_trace_3 : decode cX10_trace 3 = .ok (.aload_n 0, 1) := by decide +kernel
theorem dX10_trace_4 : decode cX10_trace 4 = .ok (.getfield 147, 3) := by decide +kernel
theorem dX10_trace_7 : decode cX10_trace 7 = .ok (.bipush 60, 2) := by decide +kernel
theorem dX10_trace_9 : decode cX10_trace 9 = .ok (.if_icmp .ge 10, 3) := by decide +kernel
theorem dX10_trace_12 : decode cX10_trace 12 = .ok (.aload_n 0, 1) := by decide +kernel
theorem dX10_trace_13 : decode cX10_trace 13 = .ok (.getfield 147, 3) := by decide +kernel
theorem dX10_trace_16 : decode cX10_trace 16 = .ok (.goto 5, 3) := by decide +kernel
theorem dX10_trace_19 : decode cX10_trace 19 = .ok (.bipush 60, 2) := by decide +kernel
theorem dX10_trace_21 : decode cX10_trace 21 = .ok (.iconst 1, 1) := by decide +kernel
theorem dX10_trace_22 : decode cX10_trace 22 = .ok (.isub, 1) := by decide +kernel
theorem dX10_trace_23 : decode cX10_trace 23 = .ok (.i2l, 1) := by decide +kernel
theorem dX10_trace_24 : decode cX10_trace 24 = .ok (.invokestatic 152, 3) := by decide +kernel
theorem dX10_trace_27 : decode cX10_trace 27 = .ok (.ifCond .eq 12, 3) := by decide +kernel
theorem dX10_trace_30 : decode cX10_trace 30 = .ok (.aload_n 0, 1) := by decide +kernel
theorem dX10_trace_31 : decode cX10_trace 31 = .ok (.getfield 52, 3) := by decide +kernel
theorem dX10_trace_34 : decode cX10_trace 34 = .ok (.iload_n 1, 1) := by decide +kernel
theorem dX10_trace_35 : decode cX10_trace 35 = .ok (.iaload, 1) := by decide +kernel
theorem dX10_trace_36 : decode cX10_trace 36 = .ok (.goto 4, 3) := by decide +kernel
theorem dX10_trace_39 : decode cX10_trace 39 = .ok (.iconst (-1), 1) := by decide +kernel
theorem dX10_trace_40 : decode cX10_trace 40 = .ok (.ireturn, 1) := by decide +kernel
theorem dX10_count_0 : decode cX10_count 0 = .ok (.iload_n 1, 1) := by decide +kernel
theorem dX10_count_1 : decode cX10_count 1 = .ok (.i2l, 1) := by decide +kernel
theorem dX10_count_2 : decode cX10_count 2 = .ok (.lconst 0, 1) := by decide +kernel
theorem dX10_count_3 : decode cX10_count 3 = .ok (.ldc2_w 269, 3) := by decide +kernel
theorem dX10_count_6 : decode cX10_count 6 = .ok (.invokestatic 152, 3) := by decide +kernel
theorem dX10_count_9 : decode cX10_count 9 = .ok (.ifCond .eq 43, 3) := by decide +kernel
theorem dX10_count_12 : decode cX10_count 12 = .ok (.iload_n 1, 1) := by decide +kernel
theorem dX10_count_13 : decode cX10_count 13 = .ok (.iconst 3, 1) := by decide +kernel
theorem dX10_count_14 : decode cX10_count 14 = .ok (.if_icmp .ge 11, 3) := by decide +kernel
theorem dX10_count_17 : decode cX10_count 17 = .ok (.aload_n 0, 1) := by decide +kernel
theorem dX10_count_18 : decode cX10_count 18 = .ok (.iload_n 1, 1) := by decide +kernel
theorem dX10_count_19 : decode cX10_count 19 = .ok (.invokevirtual 201, 3) := by decide +kernel
theorem dX10_count_22 : decode cX10_count 22 = .ok (.goto 29, 3) := by decide +kernel
theorem dX10_count_25 : decode cX10_count 25 = .ok (.iload_n 1, 1) := by decide +kernel
theorem dX10_count_26 : decode cX10_count 26 = .ok (.bipush 6, 2) := by decide +kernel
theorem dX10_count_28 : decode cX10_count 28 = .ok (.if_icmp .ge 14, 3) := by decide +kernel
theorem dX10_count_31 : decode cX10_count 31 = .ok (.aload_n 0, 1) := by decide +kernel
theorem dX10_count_32 : decode cX10_count 32 = .ok (.getfield 25, 3) := by decide +kernel
theorem dX10_count_35 : decode cX10_count 35 = .ok (.iload_n 1, 1) := by decide +kernel
theorem dX10_count_36 : decode cX10_count 36 = .ok (.iconst 3, 1) := by decide +kernel
theorem dX10_count_37 : decode cX10_count 37 = .ok (.isub, 1) := by decide +kernel
theorem dX10_count_38 : decode cX10_count 38 = .ok (.iaload, 1) := by decide +kernel
theorem dX10_count_39 : decode cX10_count 39 = .ok (.goto 12, 3) := by decide +kernel
theorem dX10_count_42 : decode cX10_count 42 = .ok (.aload_n 0, 1) := by decide +kernel
theorem dX10_count_43 : decode cX10_count 43 = .ok (.getfield 46, 3) := by decide +kernel
theorem dX10_count_46 : decode cX10_count 46 = .ok (.iload_n 1, 1) := by decide +kernel
theorem dX10_count_47 : decode cX10_count 47 = .ok (.bipush 6, 2) := by decide +kernel
theorem dX10_count_49 : decode cX10_count 49 = .ok (.isub, 1) := by decide +kernel
theorem dX10_count_50 : decode cX10_count 50 = .ok (.iaload, 1) := by decide +kernel
theorem dX10_count_51 : decode cX10_count 51 = .ok (.ireturn, 1) := by decide +kernel
theorem dX10_count_52 : decode cX10_count 52 = .ok (.iload_n 1, 1) := by decide +kernel
theorem dX10_count_53 : decode cX10_count 53 = .ok (.bipush 13, 2) := by decide +kernel
theorem dX10_count_55 : decode cX10_count 55 = .ok (.if_icmp .ne 39, 3) := by decide +kernel
theorem dX10_count_58 : decode cX10_count 58 = .ok (.iconst 0, 1) := by decide +kernel
theorem dX10_count_59 : decode cX10_count 59 = .ok (.istore_n 2, 1) := by decide +kernel
theorem dX10_count_60 : decode cX10_count 60 = .ok (.iconst 0, 1) := by decide +kernel
theorem dX10_count_61 : decode cX10_count 61 = .ok (.istore_n 3, 1) := by decide +kernel
theorem dX10_count_62 : decode cX10_count 62 = .ok (.iload_n 3, 1) := by decide +kernel
theorem dX10_count_63 : decode cX10_count 63 = .ok (.sipush 1024, 3) := by decide +kernel
theorem dX10_count_66 : decode cX10_count 66 = .ok (.if_icmp .ge 26, 3) := by decide +kernel
theorem dX10_count_69 : decode cX10_count 69 = .ok (.iload_n 2, 1) := by decide +kernel
theorem dX10_count_70 : decode cX10_count 70 = .ok (.aload_n 0, 1) := by decide +kernel
theorem dX10_count_71 : decode cX10_count 71 = .ok (.getfield 106, 3) := by decide +kernel
theorem dX10_count_74 : decode cX10_count 74 = .ok (.iload_n 3, 1) := by decide +kernel
theorem dX10_count_75 : decode cX10_count 75 = .ok (.baload, 1) := by decide +kernel
theorem dX10_count_76 : decode cX10_count 76 = .ok (.ifCond .eq 7, 3) := by decide +kernel
theorem dX10_count_79 : decode cX10_count 79 = .ok (.iconst 1, 1) := by decide +kernel
theorem dX10_count_80 : decode cX10_count 80 = .ok (.goto 4, 3) := by decide +kernel
theorem dX10_count_83 : decode cX10_count 83 = .ok (.iconst 0, 1) := by decide +kernel
theorem dX10_count_84 : decode cX10_count 84 = .ok (.iadd, 1) := by decide +kernel
theorem dX10_count_85 : decode cX10_count 85 = .ok (.istore_n 2, 1) := by decide +kernel
theorem dX10_count_86 : decode cX10_count 86 = .ok (.iinc 3 1, 3) := by decide +kernel
theorem dX10_count_89 : decode cX10_count 89 = .ok (.goto (-27), 3) := by decide +kernel
theorem dX10_count_92 : decode cX10_count 92 = .ok (.iload_n 2, 1) := by decide +kernel
theorem dX10_count_93 : decode cX10_count 93 = .ok (.ireturn, 1) := by decide +kernel
theorem dX10_count_94 : decode cX10_count 94 = .ok (.iload_n 1, 1) := by decide +kernel
theorem dX10_count_95 : decode cX10_count 95 = .ok (.bipush 9, 2) := by decide +kernel
theorem dX10_count_97 : decode cX10_count 97 = .ok (.if_icmp .ne 10, 3) := by decide +kernel
theorem dX10_count_100 : decode cX10_count 100 = .ok (.aload_n 0, 1) := by decide +kernel
theorem dX10_count_101 : decode cX10_count 101 = .ok (.getfield 300, 3) := by decide +kernel
theorem dX10_count_104 : decode cX10_count 104 = .ok (.goto 44, 3) := by decide +kernel
theorem dX10_count_107 : decode cX10_count 107 = .ok (.iload_n 1, 1) := by decide +kernel
theorem dX10_count_108 : decode cX10_count 108 = .ok (.bipush 10, 2) := by decide +kernel
theorem dX10_count_110 : decode cX10_count 110 = .ok (.if_icmp .ne 10, 3) := by decide +kernel
theorem dX10_count_113 : decode cX10_count 113 = .ok (.aload_n 0, 1) := by decide +kernel
theorem dX10_count_114 : decode cX10_count 114 = .ok (.getfield 147, 3) := by decide +kernel
theorem dX10_count_117 : decode cX10_count 117 = .ok (.goto 31, 3) := by decide +kernel
theorem dX10_count_120 : decode cX10_count 120 = .ok (.iload_n 1, 1) := by decide +kernel
theorem dX10_count_121 : decode cX10_count 121 = .ok (.bipush 11, 2) := by decide +kernel
theorem dX10_count_123 : decode cX10_count 123 = .ok (.if_icmp .ne 10, 3) := by decide +kernel
theorem dX10_count_126 : decode cX10_count 126 = .ok (.aload_n 0, 1) := by decide +kernel
theorem dX10_count_127 : decode cX10_count 127 = .ok (.getfield 138, 3) := by decide +kernel
theorem dX10_count_130 : decode cX10_count 130 = .ok (.goto 18, 3) := by decide +kernel
theorem dX10_count_133 : decode cX10_count 133 = .ok (.iload_n 1, 1) := by decide +kernel
theorem dX10_count_134 : decode cX10_count 134 = .ok (.bipush 12, 2) := by decide +kernel
theorem dX10_count_136 : decode cX10_count 136 = .ok (.if_icmp .ne 10, 3) := by decide +kernel
theorem dX10_count_139 : decode cX10_count 139 = .ok (.aload_n 0, 1) := by decide +kernel
theorem dX10_count_140 : decode cX10_count 140 = .ok (.getfield 141, 3) := by decide +kernel
theorem dX10_count_143 : decode cX10_count 143 = .ok (.goto 5, 3) := by decide +kernel
theorem dX10_count_146 : decode cX10_count 146 = .ok (.bipush (-2), 2) := by decide +kernel
theorem dX10_count_148 : decode cX10_count 148 = .ok (.ireturn, 1) := by decide +kernel
theorem dX10_status_0 : decode cX10_status 0 = .ok (.aload_n 0, 1) := by decide +kernel
theorem dX10_status_1 : decode cX10_status 1 = .ok (.getfield 131, 3) := by decide +kernel
theorem dX10_status_4 : decode cX10_status 4 = .ok (.ireturn, 1) := by decide +kernel
