theorem dX11_init_0 : decode cX11_init 0 = .ok (.aload_n 0, 1) := by decide +kernel
theorem dX11_init_1 : decode cX11_init 1 = .ok (.invokespecial 1, 3) := by decide +kernel
theorem dX11_init_4 : decode cX11_init 4 = .ok (.aload_n 0, 1) := by decide +kernel
theorem dX11_init_5 : decode cX11_init 5 = .ok (.bipush 127, 2) := by decide +kernel
theorem dX11_init_7 : decode cX11_init 7 = .ok (.newarray .int, 2) := by decide +kernel
theorem dX11_init_9 : decode cX11_init 9 = .ok (.putfield 7, 3) := by decide +kernel
theorem dX11_init_12 : decode cX11_init 12 = .ok (.aload_n 0, 1) := by decide +kernel
theorem dX11_init_13 : decode cX11_init 13 = .ok (.bipush 127, 2) := by decide +kernel
theorem dX11_init_15 : decode cX11_init 15 = .ok (.newarray .int, 2) := by decide +kernel
theorem dX11_init_17 : decode cX11_init 17 = .ok (.putfield 13, 3) := by decide +kernel
theorem dX11_init_20 : decode cX11_init 20 = .ok (.aload_n 0, 1) := by decide +kernel
theorem dX11_init_21 : decode cX11_init 21 = .ok (.sipush 200, 3) := by decide +kernel
theorem dX11_init_24 : decode cX11_init 24 = .ok (.newarray .byte, 2) := by decide +kernel
theorem dX11_init_26 : decode cX11_init 26 = .ok (.putfield 16, 3) := by decide +kernel
theorem dX11_init_29 : decode cX11_init 29 = .ok (.aload_n 0, 1) := by decide +kernel
theorem dX11_init_30 : decode cX11_init 30 = .ok (.bipush 60, 2) := by decide +kernel
theorem dX11_init_32 : decode cX11_init 32 = .ok (.newarray .int, 2) := by decide +kernel
theorem dX11_init_34 : decode cX11_init 34 = .ok (.putfield 20, 3) := by decide +kernel
theorem dX11_init_37 : decode cX11_init 37 = .ok (.aload_n 0, 1) := by decide +kernel
theorem dX11_init_38 : decode cX11_init 38 = .ok (.bipush 60, 2) := by decide +kernel
theorem dX11_init_40 : decode cX11_init 40 = .ok (.newarray .int, 2) := by decide +kernel
theorem dX11_init_42 : decode cX11_init 42 = .ok (.putfield 23, 3) := by decide +kernel
theorem dX11_init_45 : decode cX11_init 45 = .ok (.aload_n 0, 1) := by decide +kernel
theorem dX11_init_46 : decode cX11_init 46 = .ok (.bipush 60, 2) := by decide +kernel
theorem dX11_init_48 : decode cX11_init 48 = .ok (.newarray .int, 2) := by decide +kernel
theorem dX11_init_50 : decode cX11_init 50 = .ok (.putfield 26, 3) := by decide +kernel
theorem dX11_init_53 : decode cX11_init 53 = .ok (.aload_n 0, 1) := by decide +kernel
theorem dX11_init_54 : decode cX11_init 54 = .ok (.bipush 94, 2) := by decide +kernel
theorem dX11_init_56 : decode cX11_init 56 = .ok (.newarray .int, 2) := by decide +kernel
theorem dX11_init_58 : decode cX11_init 58 = .ok (.putfield 29, 3) := by decide +kernel
theorem dX11_init_61 : decode cX11_init 61 = .ok (.aload_n 0, 1) := by decide +kernel
theorem dX11_init_62 : decode cX11_init 62 = .ok (.sipush 8836, 3) := by decide +kernel
theorem dX11_init_65 : decode cX11_init 65 = .ok (.newarray .int, 2) := by decide +kernel
theorem dX11_init_67 : decode cX11_init 67 = .ok (.putfield 32, 3) := by decide +kernel
theorem dX11_init_70 : decode cX11_init 70 = .ok (.aload_n 0, 1) := by decide +kernel
theorem dX11_init_71 : decode cX11_init 71 = .ok (.sipush 14400, 3) := by decide +kernel
theorem dX11_init_74 : decode cX11_init 74 = .ok (.newarray .int, 2) := by decide +kernel
theorem dX11_init_76 : decode cX11_init 76 = .ok (.putfield 35, 3) := by decide +kernel
theorem dX11_init_79 : decode cX11_init 79 = .ok (.aload_n 0, 1) := by decide +kernel
theorem dX11_init_80 : decode cX11_init 80 = .ok (.bipush 8, 2) := by decide +kernel
theorem dX11_init_82 : decode cX11_init 82 = .ok (.newarray .int, 2) := by decide +kernel
theorem dX11_init_84 : decode cX11_init 84 = .ok (.putfield 38, 3) := by decide +kernel
theorem dX11_init_87 : decode cX11_init 87 = .ok (.aload_n 0, 1) := by decide +kernel
theorem dX11_init_88 : decode cX11_init 88 = .ok (.sipush 8040, 3) := by decide +kernel
theorem dX11_init_91 : decode cX11_init 91 = .ok (.newarray .byte, 2) := by decide +kernel
theorem dX11_init_93 : decode cX11_init 93 = .ok (.putfield 41, 3) := by decide +kernel
theorem dX11_init_96 : decode cX11_init 96 = .ok (.aload_n 0, 1) := by decide +kernel
theorem dX11_init_97 : decode cX11_init 97 = .ok (.sipush 201, 3) := by decide +kernel
theorem dX11_init_100 : decode cX11_init 100 = .ok (.newarray .int, 2) := by decide +kernel
theorem dX11_init_102 : decode cX11_init 102 = .ok (.putfield 44, 3) := by decide +kernel
theorem dX11_init_105 : decode cX11_init 105 = .ok (.aload_n 0, 1) := by decide +kernel
theorem dX11_init_106 : decode cX11_init 106 = .ok (.iconst (-1), 1) := by decide +kernel
theorem dX11_init_107 : decode cX11_init 107 = .ok (.putfield 47, 3) := by decide +kernel
theorem dX11_init_110 : decode cX11_init 110 = .ok (.aload_n 0, 1) := by decide +kernel
theorem dX11_init_111 : decode cX11_init 111 = .ok (.bipush 40, 2) := by decide +kernel
theorem dX11_init_113 : decode cX11_init 113 = .ok (.newarray .int, 2) := by decide +kernel
theorem dX11_init_115 : decode cX11_init 115 = .ok (.putfield 51, 3) := by decide +kernel
theorem dX11_init_118 : decode cX11_init 118 = .ok (.aload_n 0, 1) := by decide +kernel
theorem dX11_init_119 : decode cX11_init 119 = .ok (.bipush 40, 2) := by decide +kernel
theorem dX11_init_121 : decode cX11_init 121 = .ok (.newarray .int, 2) := by decide +kernel
theorem dX11_init_123 : decode cX11_init 123 = .ok (.putfield 54, 3) := by decide +kernel
theorem dX11_init_126 : decode cX11_init 126 = .ok (.aload_n 0, 1) := by decide +kernel
theorem dX11_init_127 : decode cX11_init 127 = .ok (.sipush 1681, 3) := by decide +kernel
theorem dX11_init_130 : decode cX11_init 130 = .ok (.newarray .int, 2) := by decide +kernel
theorem dX11_init_132 : decode cX11_init 132 = .ok (.putfield 57, 3) := by decide +kernel
theorem dX11_init_135 : decode cX11_init 135 = .ok (.aload_n 0, 1) := by decide +kernel
theorem dX11_init_136 : decode cX11_init 136 = .ok (.iconst 4, 1) := by decide +kernel
theorem dX11_init_137 : decode cX11_init 137 = .ok (.newarray .int, 2) := by decide +kernel
theorem dX11_init_139 : decode cX11_init 139 = .ok (.putfield 60, 3) := by decide +kernel
theorem dX11_init_142 : decode cX11_init 142 = .ok (.aload_n 0, 1) := by decide +kernel
theorem dX11_init_143 : decode cX11_init 143 = .ok (.iconst 4, 1) := by decide +kernel
theorem dX11_init_144 : decode cX11_init 144 = .ok (.newarray .int, 2) := by decide +kernel
theorem dX11_init_146 : decode cX11_init 146 = .ok (.putfield 63, 3) := by decide +kernel
theorem dX11_init_149 : decode cX11_init 149 = .ok (.aload_n 0, 1) := by decide +kernel
theorem dX11_init_150 : decode cX11_init 150 = .ok (.iconst 4, 1) := by decide +kernel
theorem dX11_init_151 : decode cX11_init 151 = .ok (.newarray .boolean, 2) := by decide +kernel
theorem dX11_init_153 : decode cX11_init 153 = .ok (.putfield 66, 3) := by decide +kernel
theorem dX11_init_156 : decode cX11_init 156 = .ok (.aload_n 0, 1) := by decide +kernel
theorem dX11_init_157 : decode cX11_init 157 = .ok (.sipush 200, 3) := by decide +kernel
theorem dX11_init_160 : decode cX11_init 160 = .ok (.newarray .int, 2) := by decide +kernel
theorem dX11_init_162 : decode cX11_init 162 = .ok (.putfield 70, 3) := by decide +kernel
theorem dX11_init_165 : decode cX11_init 165 = .ok (.aload_n 0, 1) := by decide +kernel
theorem dX11_init_166 : decode cX11_init 166 = .ok (.sipush 200, 3) := by decide +kernel
theorem dX11_init_169 : decode cX11_init 169 = .ok (.newarray .int, 2) := by decide +kernel
theorem dX11_init_171 : decode cX11_init 171 = .ok (.putfield 73, 3) := by decide +kernel
theorem dX11_init_174 : decode cX11_init 174 = .ok (.aload_n 0, 1) := by decide +kernel
theorem dX11_init_175 : decode cX11_init 175 = .ok (.sipush 200, 3) := by decide +kernel
theorem dX11_init_178 : decode cX11_init 178 = .ok (.newarray .boolean, 2) := by decide +kernel
theorem dX11_init_180 : decode cX11_init 180 = .ok (.putfield 76, 3) := by decide +kernel
theorem dX11_init_183 : decode cX11_init 183 = .ok (.aload_n 0, 1) := by decide +kernel
theorem dX11_init_184 : decode cX11_init 184 = .ok (.sipush 200, 3) := by decide +kernel
theorem dX11_init_187 : decode cX11_init 187 = .ok (.newarray .int, 2) := by decide +kernel
theorem dX11_init_189 : decode cX11_init 189 = .ok (.putfield 79, 3) := by decide +kernel
theorem dX11_init_192 : decode cX11_init 192 = .ok (.aload_n 0, 1) := by decide +kernel
theorem dX11_init_193 : decode cX11_init 193 = .ok (.sipush 200, 3) := by decide +kernel
theorem dX11_init_196 : decode cX11_init 196 = .ok (.newarray .int, 2) := by decide +kernel
theorem dX11_init_198 : decode cX11_init 198 = .ok (.putfield 82, 3) := by decide +kernel
theorem dX11_init_201 : decode cX11_init 201 = .ok (.aload_n 0, 1) := by decide +kernel
theorem dX11_init_202 : decode cX11_init 202 = .ok (.bipush 40, 2) := by decide +kernel
theorem dX11_init_204 : decode cX11_init 204 = .ok (.newarray .int, 2) := by decide +kernel
theorem dX11_init_206 : decode cX11_init 206 = .ok (.putfield 85, 3) := by decide +kernel
theorem dX11_init_209 : decode cX11_init 209 = .ok (.aload_n 0, 1) := by decide +kernel
theorem dX11_init_210 : decode cX11_init 210 = .ok (.bipush 40, 2) := by decide +kernel
theorem dX11_init_212 : decode cX11_init 212 = .ok (.newarray .int, 2) := by decide +kernel
theorem dX11_init_214 : decode cX11_init 214 = .ok (.putfield 88, 3) := by decide +kernel
theorem dX11_init_217 : decode cX11_init 217 = .ok (.aload_n 0, 1) := by decide +kernel
theorem dX11_init_218 : decode cX11_init 218 = .ok (.bipush 40, 2) := by decide +kernel
theorem dX11_init_220 : decode cX11_init 220 = .ok (.newarray .int, 2) := by decide +kernel
theorem dX11_init_222 : decode cX11_init 222 = .ok (.putfield 91, 3) := by decide +kernel
theorem dX11_init_225 : decode cX11_init 225 = .ok (.aload_n 0, 1) := by decide +kernel
theorem dX11_init_226 : decode cX11_init 226 = .ok (.sipush 1000, 3) := by decide +kernel
theorem dX11_init_229 : decode cX11_init 229 = .ok (.newarray .int, 2) := by decide +kernel
theorem dX11_init_231 : decode cX11_init 231 = .ok (.putfield 94, 3) := by decide +kernel
theorem dX11_init_234 : decode cX11_init 234 = .ok (.aload_n 0, 1) := by decide +kernel
theorem dX11_init_235 : decode cX11_init 235 = .ok (.sipush 1000, 3) := by decide +kernel
theorem dX11_init_238 : decode cX11_init 238 = .ok (.newarray .int, 2) := by decide +kernel
theorem dX11_init_240 : decode cX11_init 240 = .ok (.putfield 97, 3) := by decide +kernel
theorem dX11_init_243 : decode cX11_init 243 = .ok (.aload_n 0, 1) := by decide +kernel
theorem dX11_init_244 : decode cX11_init 244 = .ok (.sipush 1000, 3) := by decide +kernel
theorem dX11_init_247 : decode cX11_init 247 = .ok (.newarray .int, 2) := by decide +kernel
theorem dX11_init_249 : decode cX11_init 249 = .ok (.putfield 100, 3) := by decide +kernel
theorem dX11_init_252 : decode cX11_init 252 = .ok (.bipush 33, 2) := by decide +kernel
theorem dX11_init_254 : decode cX11_init 254 = .ok (.istore_n 1, 1) := by decide +kernel
theorem dX11_init_255 : decode cX11_init 255 = .ok (.iload_n 1, 1) := by decide +kernel
theorem dX11_init_256 : decode cX11_init 256 = .ok (.bipush 126, 2) := by decide +kernel
theorem dX11_init_258 : decode cX11_init 258 = .ok (.if_icmp .gt 44, 3) := by decide +kernel
theorem dX11_init_261 : decode cX11_init 261 = .ok (.aload_n 0, 1) := by decide +kernel
theorem dX11_init_262 : decode cX11_init 262 = .ok (.getfield 7, 3) := by decide +kernel
theorem dX11_init_265 : decode cX11_init 265 = .ok (.iload_n 1, 1) := by decide +kernel
theorem dX11_init_266 : decode cX11_init 266 = .ok (.iload_n 1, 1) := by decide +kernel
theorem dX11_init_267 : decode cX11_init 267 = .ok (.bipush 97, 2) := by decide +kernel
theorem dX11_init_269 : decode cX11_init 269 = .ok (.if_icmp .lt 9, 3) := by decide +kernel
theorem dX11_init_272 : decode cX11_init 272 = .ok (.iload_n 1, 1) := by decide +kernel
theorem dX11_init_273 : decode cX11_init 273 = .ok (.bipush 122, 2) := by decide +kernel
theorem dX11_init_275 : decode cX11_init 275 = .ok (.if_icmp .le 15, 3) := by decide +kernel
theorem dX11_init_278 : decode cX11_init 278 = .ok (.iload_n 1, 1) := by decide +kernel
theorem dX11_init_279 : decode cX11_init 279 = .ok (.bipush 65, 2) := by decide +kernel
theorem dX11_init_281 : decode cX11_init 281 = .ok (.if_icmp .lt 13, 3) := by decide +kernel
theorem dX11_init_284 : decode cX11_init 284 = .ok (.iload_n 1, 1) := by decide +kernel
theorem dX11_init_285 : decode cX11_init 285 = .ok (.bipush 90, 2) := by decide +kernel
theorem dX11_init_287 : decode cX11_init 287 = .ok (.if_icmp .gt 7, 3) := by decide +kernel
theorem dX11_init_290 : decode cX11_init 290 = .ok (.iconst 1, 1) := by decide +kernel
theorem dX11_init_291 : decode cX11_init 291 = .ok (.goto 4, 3) := by decide +kernel
theorem dX11_init_294 : decode cX11_init 294 = .ok (.iconst 0, 1) := by decide +kernel
theorem dX11_init_295 : decode cX11_init 295 = .ok (.iastore, 1) := by decide +kernel
theorem dX11_init_296 : decode cX11_init 296 = .ok (.iinc 1 1, 3) := by decide +kernel
theorem dX11_init_299 : decode cX11_init 299 = .ok (.goto (-44), 3) := by decide +kernel
theorem dX11_init_302 : decode cX11_init 302 = .ok (.iconst 0, 1) := by decide +kernel
theorem dX11_init_303 : decode cX11_init 303 = .ok (.istore_n 1, 1) := by decide +kernel
theorem dX11_init_304 : decode cX11_init 304 = .ok (.iload_n 1, 1) := by decide +kernel
theorem dX11_init_305 : decode cX11_init 305 = .ok (.iconst 4, 1) := by decide +kernel
theorem dX11_init_306 : decode cX11_init 306 = .ok (.if_icmp .ge 24, 3) := by decide +kernel
theorem dX11_init_309 : decode cX11_init 309 = .ok (.aload_n 0, 1) := by decide +kernel
theorem dX11_init_310 : decode cX11_init 310 = .ok (.getfield 60, 3) := by decide +kernel
theorem dX11_init_313 : decode cX11_init 313 = .ok (.iload_n 1, 1) := by decide +kernel
theorem dX11_init_314 : decode cX11_init 314 = .ok (.iconst 4, 1) := by decide +kernel
theorem dX11_init_315 : decode cX11_init 315 = .ok (.iastore, 1) := by decide +kernel
theorem dX11_init_316 : decode cX11_init 316 = .ok (.aload_n 0, 1) := by decide +kernel
theorem dX11_init_317 : decode cX11_init 317 = .ok (.getfield 63, 3) := by decide +kernel
theorem dX11_init_320 : decode cX11_init 320 = .ok (.iload_n 1, 1) := by decide +kernel
theorem dX11_init_321 : decode cX11_init 321 = .ok (.bipush 8, 2) := by decide +kernel
theorem dX11_init_323 : decode cX11_init 323 = .ok (.iastore, 1) := by decide +kernel
theorem dX11_init_324 : decode cX11_init 324 = .ok (.iinc 1 1, 3) := by decide +kernel
theorem dX11_init_327 : decode cX11_init 327 = .ok (.goto (-23), 3) := by decide +kernel
theorem dX11_init_330 : decode cX11_init 330 = .ok (.aload_n 0, 1) := by decide +kernel
theorem dX11_init_331 : decode cX11_init 331 = .ok (.invokevirtual 103, 3) := by decide +kernel
theorem dX11_init_334 : decode cX11_init 334 = .ok (.return_, 1) := by decide +kernel
theorem dX11_in_0 : decode cX11_in 0 = .ok (.iload_n 0, 1) := by decide +kernel
theorem dX11_in_1 : decode cX11_in 1 = .ok (.iload_n 1, 1) := by decide +kernel
theorem dX11_in_2 : decode cX11_in 2 = .ok (.if_icmp .lt 12, 3) := by decide +kernel
theorem dX11_in_5 : decode cX11_in 5 = .ok (.iload_n 0, 1) := by decide +kernel
theorem dX11_in_6 : decode cX11_in 6 = .ok (.iload_n 2, 1) := by decide +kernel
theorem dX11_in_7 : decode cX11_in 7 = .ok (.if_icmp .gt 7, 3) := by decide +kernel
theorem dX11_in_10 : decode cX11_in 10 = .ok (.iconst 1, 1) := by decide +kernel
theorem dX11_in_11 : decode cX11_in 11 = .ok (.goto 4, 3) := by decide +kernel
theorem dX11_in_14 : decode cX11_in 14 = .ok (.iconst 0, 1) := by decide +kernel
theorem dX11_in_15 : decode cX11_in 15 = .ok (.ireturn, 1) := by decide +kernel
theorem dX11_isSign_0 : decode cX11_isSign 0 = .ok (.iload_n 0, 1) := by decide +kernel
theorem dX11_isSign_1 : decode cX11_isSign 1 = .ok (.bipush 33, 2) := by decide +kernel
theorem dX11_isSign_3 : decode cX11_isSign 3 = .ok (.bipush 126, 2) := by decide +kernel
theorem dX11_isSign_5 : decode cX11_isSign 5 = .ok (.invokestatic 106, 3) := by decide +kernel
theorem dX11_isSign_8 : decode cX11_isSign 8 = .ok (.ireturn, 1) := by decide +kernel
theorem dX11_feed_0 : decode cX11_feed 0 = .ok (.aload_n 0, 1) := by decide +kernel
theorem dX11_feed_1 : decode cX11_feed 1 = .ok (.getfield 110, 3) := by decide +kernel
theorem dX11_feed_4 : decode cX11_feed 4 = .ok (.bipush 20, 2) := by decide +kernel
theorem dX11_feed_6 : decode cX11_feed 6 = .ok (.iadd, 1) := by decide +kernel
theorem dX11_feed_7 : decode cX11_feed 7 = .ok (.sipush 200, 3) := by decide +kernel
theorem dX11_feed_10 : decode cX11_feed 10 = .ok (.if_icmp .le 6, 3) := by decide +kernel
theorem dX11_feed_13 : decode cX11_feed 13 = .ok (.bipush (-3), 2) := by decide +kernel
theorem dX11_feed_15 : decode cX11_feed 15 = .ok (.ireturn, 1) := by decide +kernel
theorem dX11_feed_16 : decode cX11_feed 16 = .ok (.iconst 0, 1) := by decide +kernel
theorem dX11_feed_17 : decode cX11_feed 17 = .ok (.istore 6, 2) := by decide +kernel
theorem dX11_feed_19 : decode cX11_feed 19 = .ok (.iload 6, 2) := by decide +kernel
theorem dX11_feed_21 : decode cX11_feed 21 = .ok (.iconst 5, 1) := by decide +kernel
theorem dX11_feed_22 : decode cX11_feed 22 = .ok (.if_icmp .ge 93, 3) := by decide +kernel
theorem dX11_feed_25 : decode cX11_feed 25 = .ok (.iload 6, 2) := by decide +kernel
theorem dX11_feed_27 : decode cX11_feed 27 = .ok (.ifCond .ne 7, 3) := by decide +kernel
theorem dX11_feed_30 : decode cX11_feed 30 = .ok (.iload_n 1, 1) := by decide +kernel
theorem dX11_feed_31 : decode cX11_feed 31 = .ok (.goto 36, 3) := by decide +kernel
theorem dX11_feed_34 : decode cX11_feed 34 = .ok (.iload 6, 2) := by decide +kernel
theorem dX11_feed_36 : decode cX11_feed 36 = .ok (.iconst 1, 1) := by decide +kernel
theorem dX11_feed_37 : decode cX11_feed 37 = .ok (.if_icmp .ne 7, 3) := by decide +kernel
theorem dX11_feed_40 : decode cX11_feed 40 = .ok (.iload_n 2, 1) := by decide +kernel
theorem dX11_feed_41 : decode cX11_feed 41 = .ok (.goto 26, 3) := by decide +kernel
theorem dX11_feed_44 : decode cX11_feed 44 = .ok (.iload 6, 2) := by decide +kernel
theorem dX11_feed_46 : decode cX11_feed 46 = .ok (.iconst 2, 1) := by decide +kernel
theorem dX11_feed_47 : decode cX11_feed 47 = .ok (.if_icmp .ne 7, 3) := by decide +kernel
theorem dX11_feed_50 : decode cX11_feed 50 = .ok (.iload_n 3, 1) := by decide +kernel
theorem dX11_feed_51 : decode cX11_feed 51 = .ok (.goto 16, 3) := by decide +kernel
theorem dX11_feed_54 : decode cX11_feed 54 = .ok (.iload 6, 2) := by decide +kernel
theorem dX11_feed_56 : decode cX11_feed 56 = .ok (.iconst 3, 1) := by decide +kernel
theorem dX11_feed_57 : decode cX11_feed 57 = .ok (.if_icmp .ne 8, 3) := by decide +kernel
theorem dX11_feed_60 : decode cX11_feed 60 = .ok (.iload 4, 2) := by decide +kernel
theorem dX11_feed_62 : decode cX11_feed 62 = .ok (.goto 5, 3) := by decide +kernel
theorem dX11_feed_65 : decode cX11_feed 65 = .ok (.iload 5, 2) := by decide +kernel
theorem dX11_feed_67 : decode cX11_feed 67 = .ok (.istore 7, 2) := by decide +kernel
theorem dX11_feed_69 : decode cX11_feed 69 = .ok (.bipush 24, 2) := by decide +kernel
theorem dX11_feed_71 : decode cX11_feed 71 = .ok (.istore 8, 2) := by decide +kernel
theorem dX11_feed_73 : decode cX11_feed 73 = .ok (.iload 8, 2) := by decide +kernel
theorem dX11_feed_75 : decode cX11_feed 75 = .ok (.ifCond .lt 34, 3) := by decide +kernel
theorem dX11_feed_78 : decode cX11_feed 78 = .ok (.aload_n 0, 1) := by decide +kernel
theorem dX11_feed_79 : decode cX11_feed 79 = .ok (.getfield 16, 3) := by decide +kernel
theorem dX11_feed_82 : decode cX11_feed 82 = .ok (.aload_n 0, 1) := by decide +kernel
theorem dX11_feed_83 : decode cX11_feed 83 = .ok (.getfield 110, 3) := by decide +kernel
theorem dX11_feed_86 : decode cX11_feed 86 = .ok (.iload 7, 2) := by decide +kernel
theorem dX11_feed_88 : decode cX11_feed 88 = .ok (.iload 8, 2) := by decide +kernel
theorem dX11_feed_90 : decode cX11_feed 90 = .ok (.ishr, 1) := by decide +kernel
theorem dX11_feed_91 : decode cX11_feed 91 = .ok (.i2b, 1) := by decide +kernel
theorem dX11_feed_92 : decode cX11_feed 92 = .ok (.bastore, 1) := by decide +kernel
theorem dX11_feed_93 : decode cX11_feed 93 = .ok (.aload_n 0, 1) := by decide +kernel
theorem dX11_feed_94 : decode cX11_feed 94 = .ok (.dup, 1) := by decide +kernel
theorem dX11_feed_95 : decode cX11_feed 95 = .ok (.getfield 110, 3) := by decide +kernel
theorem dX11_feed_98 : decode cX11_feed 98 = .ok (.iconst 1, 1) := by decide +kernel
theorem dX11_feed_99 : decode cX11_feed 99 = .ok (.iadd, 1) := by decide +kernel
theorem dX11_feed_100 : decode cX11_feed 100 = .ok (.putfield 110, 3) := by decide +kernel
theorem dX11_feed_103 : decode cX11_feed 103 = .ok (.iinc 8 (-8), 3) := by decide +kernel
theorem dX11_feed_106 : decode cX11_feed 106 = .ok (.goto (-33), 3) := by decide +kernel
theorem dX11_feed_109 : decode cX11_feed 109 = .ok (.iinc 6 1, 3) := by decide +kernel
theorem dX11_feed_112 : decode cX11_feed 112 = .ok (.goto (-93), 3) := by decide +kernel
theorem dX11_feed_115 : decode cX11_feed 115 = .ok (.aload_n 0, 1) := by decide +kernel
theorem dX11_feed_116 : decode cX11_feed 116 = .ok (.getfield 110, 3) := by decide +kernel
theorem dX11_feed_119 : decode cX11_feed 119 = .ok (.ireturn, 1) := by decide +kernel
theorem dX11_end_0 : decode cX11_end 0 = .ok (.iload_n 1, 1) := by decide +kernel
theorem dX11_end_1 : decode cX11_end 1 = .ok (.ifCond .lt 11, 3) := by decide +kernel
theorem dX11_end_4 : decode cX11_end 4 = .ok (.iload_n 1, 1) := by decide +kernel
theorem dX11_end_5 : decode cX11_end 5 = .ok (.aload_n 0, 1) := by decide +kernel
theorem dX11_end_6 : decode cX11_end 6 = .ok (.getfield 110, 3) := by decide +kernel
theorem dX11_end_9 : decode cX11_end 9 = .ok (.if_icmp .le 5, 3) := by decide +kernel
theorem dX11_end_12 : decode cX11_end 12 = .ok (.iconst (-1), 1) := by decide +kernel
theorem dX11_end_13 : decode cX11_end 13 = .ok (.ireturn, 1) := by decide +kernel
theorem dX11_end_14 : decode cX11_end 14 = .ok (.aload_n 0, 1) := by decide +kernel
theorem dX11_end_15 : decode cX11_end 15 = .ok (.iload_n 1, 1) := by decide +kernel
theorem dX11_end_16 : decode cX11_end 16 = .ok (.putfield 110, 3) := by decide +kernel
theorem dX11_end_19 : decode cX11_end 19 = .ok (.iload_n 1, 1) := by decide +kernel
theorem dX11_end_20 : decode cX11_end 20 = .ok (.ireturn, 1) := by decide +kernel
theorem dX11_script_0 : decode cX11_script 0 = .ok (.iload_n 1, 1) := by decide +kernel
theorem dX11_script_1 : decode cX11_script 1 = .ok (.invokestatic 113, 3) := by decide +kernel
theorem dX11_script_4 : decode cX11_script 4 = .ok (.ifCond .eq 13, 3) := by decide +kernel
theorem dX11_script_7 : decode cX11_script 7 = .ok (.iload_n 2, 1) := by decide +kernel
theorem dX11_script_8 : decode cX11_script 8 = .ok (.iconst 0, 1) := by decide +kernel
theorem dX11_script_9 : decode cX11_script 9 = .ok (.bipush 7, 2) := by decide +kernel
theorem dX11_script_11 : decode cX11_script 11 = .ok (.invokestatic 106, 3) := by decide +kernel
theorem dX11_script_14 : decode cX11_script 14 = .ok (.ifCond .ne 6, 3) := by decide +kernel
theorem dX11_script_17 : decode cX11_script 17 = .ok (.bipush (-2), 2) := by decide +kernel
theorem dX11_script_19 : decode cX11_script 19 = .ok (.ireturn, 1) := by decide +kernel
theorem dX11_script_20 : decode cX11_script 20 = .ok (.aload_n 0, 1) := by decide +kernel
theorem dX11_script_21 : decode cX11_script 21 = .ok (.getfield 7, 3) := by decide +kernel
theorem dX11_script_24 : decode cX11_script 24 = .ok (.iload_n 1, 1) := by decide +kernel
theorem dX11_script_25 : decode cX11_script 25 = .ok (.iaload, 1) := by decide +kernel
theorem dX11_script_26 : decode cX11_script 26 = .ok (.istore_n 3, 1) := by decide +kernel
theorem dX11_script_27 : decode cX11_script 27 = .ok (.aload_n 0, 1) := by decide +kernel
theorem dX11_script_28 : decode cX11_script 28 = .ok (.getfield 7, 3) := by decide +kernel
theorem dX11_script_31 : decode cX11_script 31 = .ok (.iload_n 1, 1) := by decide +kernel
theorem dX11_script_32 : decode cX11_script 32 = .ok (.iload_n 2, 1) := by decide +kernel
theorem dX11_script_33 : decode cX11_script 33 = .ok (.iastore, 1) := by decide +kernel
theorem dX11_script_34 : decode cX11_script 34 = .ok (.iload_n 3, 1) := by decide +kernel
theorem dX11_script_35 : decode cX11_script 35 = .ok (.ireturn, 1) := by decide +kernel
theorem dX11_seen_0 : decode cX11_seen 0 = .ok (.iload_n 1, 1) := by decide +kernel
theorem dX11_seen_1 : decode cX11_seen 1 = .ok (.invokestatic 113, 3) := by decide +kernel
theorem dX11_seen_4 : decode cX11_seen 4 = .ok (.ifCond .eq 12, 3) := by decide +kernel
theorem dX11_seen_7 : decode cX11_seen 7 = .ok (.iload_n 2, 1) := by decide +kernel
theorem dX11_seen_8 : decode cX11_seen 8 = .ok (.iconst 0, 1) := by decide +kernel
theorem dX11_seen_9 : decode cX11_seen 9 = .ok (.iconst 2, 1) := by decide +kernel
theorem dX11_seen_10 : decode cX11_seen 10 = .ok (.invokestatic 106, 3) := by decide +kernel
theorem dX11_seen_13 : decode cX11_seen 13 = .ok (.ifCond .ne 6, 3) := by decide +kernel
theorem dX11_seen_16 : decode cX11_seen 16 = .ok (.bipush (-2), 2) := by decide +kernel
theorem dX11_seen_18 : decode cX11_seen 18 = .ok (.ireturn, 1) := by decide +kernel
theorem dX11_seen_19 : decode cX11_seen 19 = .ok (.aload_n 0, 1) := by decide +kernel
theorem dX11_seen_20 : decode cX11_seen 20 = .ok (.getfield 13, 3) := by decide +kernel
theorem dX11_seen_23 : decode cX11_seen 23 = .ok (.iload_n 1, 1) := by decide +kernel
theorem dX11_seen_24 : decode cX11_seen 24 = .ok (.iaload, 1) := by decide +kernel
theorem dX11_seen_25 : decode cX11_seen 25 = .ok (.istore_n 3, 1) := by decide +kernel
theorem dX11_seen_26 : decode cX11_seen 26 = .ok (.aload_n 0, 1) := by decide +kernel
theorem dX11_seen_27 : decode cX11_seen 27 = .ok (.getfield 13, 3) := by decide +kernel
theorem dX11_seen_30 : decode cX11_seen 30 = .ok (.iload_n 1, 1) := by decide +kernel
theorem dX11_seen_31 : decode cX11_seen 31 = .ok (.iload_n 2, 1) := by decide +kernel
theorem dX11_seen_32 : decode cX11_seen 32 = .ok (.iastore, 1) := by decide +kernel
theorem dX11_seen_33 : decode cX11_seen 33 = .ok (.iload_n 3, 1) := by decide +kernel
theorem dX11_seen_34 : decode cX11_seen 34 = .ok (.ireturn, 1) := by decide +kernel
theorem dX11_isPiece_0 : decode cX11_isPiece 0 = .ok (.iload_n 0, 1) := by decide +kernel
theorem dX11_isPiece_1 : decode cX11_isPiece 1 = .ok (.invokestatic 113, 3) := by decide +kernel
theorem dX11_isPiece_4 : decode cX11_isPiece 4 = .ok (.ifCond .ne 25, 3) := by decide +kernel
theorem dX11_isPiece_7 : decode cX11_isPiece 7 = .ok (.iload_n 0, 1) := by decide +kernel
theorem dX11_isPiece_8 : decode cX11_isPiece 8 = .ok (.sipush 256, 3) := by decide +kernel
theorem dX11_isPiece_11 : decode cX11_isPiece 11 = .ok (.idiv, 1) := by decide +kernel
theorem dX11_isPiece_12 : decode cX11_isPiece 12 = .ok (.invokestatic 113, 3) := by decide +kernel
theorem dX11_isPiece_15 : decode cX11_isPiece 15 = .ok (.ifCond .eq 18, 3) := by decide +kernel
theorem dX11_isPiece_18 : decode cX11_isPiece 18 = .ok (.iload_n 0, 1) := by decide +kernel
theorem dX11_isPiece_19 : decode cX11_isPiece 19 = .ok (.sipush 256, 3) := by decide +kernel
theorem dX11_isPiece_22 : decode cX11_isPiece 22 = .ok (.irem, 1) := by decide +kernel
theorem dX11_isPiece_23 : decode cX11_isPiece 23 = .ok (.invokestatic 113, 3) := by decide +kernel
theorem dX11_isPiece_26 : decode cX11_isPiece 26 = .ok (.ifCond .eq 7, 3) := by decide +kernel
theorem dX11_isPiece_29 : decode cX11_isPiece 29 = .ok (.iconst 1, 1) := by decide +kernel
theorem dX11_isPiece_30 : decode cX11_isPiece 30 = .ok (.goto 4, 3) := by decide +kernel
theorem dX11_isPiece_33 : decode cX11_isPiece 33 = .ok (.iconst 0, 1) := by decide +kernel
theorem dX11_isPiece_34 : decode cX11_isPiece 34 = .ok (.ireturn, 1) := by decide +kernel
theorem dX11_find_0 : decode cX11_find 0 = .ok (.iconst 0, 1) := by decide +kernel
theorem dX11_find_1 : decode cX11_find 1 = .ok (.istore_n 3, 1) := by decide +kernel
theorem dX11_find_2 : decode cX11_find 2 = .ok (.iload_n 3, 1) := by decide +kernel
theorem dX11_find_3 : decode cX11_find 3 = .ok (.aload_n 0, 1) := by decide +kernel
theorem dX11_find_4 : decode cX11_find 4 = .ok (.getfield 117, 3) := by decide +kernel
theorem dX11_find_7 : decode cX11_find 7 = .ok (.if_icmp .ge 51, 3) := by decide +kernel
theorem dX11_find_10 : decode cX11_find 10 = .ok (.aload_n 0, 1) := by decide +kernel
theorem dX11_find_11 : decode cX11_find 11 = .ok (.getfield 20, 3) := by decide +kernel
theorem dX11_find_14 : decode cX11_find 14 = .ok (.iload_n 3, 1) := by decide +kernel
theorem dX11_find_15 : decode cX11_find 15 = .ok (.iaload, 1) := by decide +kernel
theorem dX11_find_16 : decode cX11_find 16 = .ok (.iload_n 1, 1) := by decide +kernel
theorem dX11_find_17 : decode cX11_find 17 = .ok (.if_icmp .ne 13, 3) := by decide +kernel
theorem dX11_find_20 : decode cX11_find 20 = .ok (.aload_n 0, 1) := by decide +kernel
theorem dX11_find_21 : decode cX11_find 21 = .ok (.getfield 23, 3) := by decide +kernel
theorem dX11_find_24 : decode cX11_find 24 = .ok (.iload_n 3, 1) := by decide +kernel
theorem dX11_find_25 : decode cX11_find 25 = .ok (.iaload, 1) := by decide +kernel
theorem dX11_find_26 : decode cX11_find 26 = .ok (.iload_n 2, 1) := by decide +kernel
theorem dX11_find_27 : decode cX11_find 27 = .ok (.if_icmp .eq 23, 3) := by decide +kernel
theorem dX11_find_30 : decode cX11_find 30 = .ok (.aload_n 0, 1) := by decide +kernel
theorem dX11_find_31 : decode cX11_find 31 = .ok (.getfield 20, 3) := by decide +kernel
theorem dX11_find_34 : decode cX11_find 34 = .ok (.iload_n 3, 1) := by decide +kernel
theorem dX11_find_35 : decode cX11_find 35 = .ok (.iaload, 1) := by decide +kernel
theorem dX11_find_36 : decode cX11_find 36 = .ok (.iload_n 2, 1) := by decide +kernel
theorem dX11_find_37 : decode cX11_find 37 = .ok (.if_icmp .ne 15, 3) := by decide +kernel
theorem dX11_find_40 : decode cX11_find 40 = .ok (.aload_n 0, 1) := by decide +kernel
theorem dX11_find_41 : decode cX11_find 41 = .ok (.getfield 23, 3) := by decide +kernel
theorem dX11_find_44 : decode cX11_find 44 = .ok (.iload_n 3, 1) := by decide +kernel
theorem dX11_find_45 : decode cX11_find 45 = .ok (.iaload, 1) := by decide +kernel
theorem dX11_find_46 : decode cX11_find 46 = .ok (.iload_n 1, 1) := by decide +kernel
theorem dX11_find_47 : decode cX11_find 47 = .ok (.if_icmp .ne 5, 3) := by decide +kernel
theorem dX11_find_50 : decode cX11_find 50 = .ok (.iload_n 3, 1) := by decide +kernel
theorem dX11_find_51 : decode cX11_find 51 = .ok (.ireturn, 1) := by decide +kernel
theorem dX11_find_52 : decode cX11_find 52 = .ok (.iinc 3 1, 3) := by decide +kernel
theorem dX11_find_55 : decode cX11_find 55 = .ok (.goto (-53), 3) := by decide +kernel
theorem dX11_find_58 : decode cX11_find 58 = .ok (.iconst (-1), 1) := by decide +kernel
theorem dX11_find_59 : decode cX11_find 59 = .ok (.ireturn, 1) := by decide +kernel
theorem dX11_confuse_0 : decode cX11_confuse 0 = .ok (.iload_n 1, 1) := by decide +kernel
theorem dX11_confuse_1 : decode cX11_confuse 1 = .ok (.invokestatic 120, 3) := by decide +kernel
theorem dX11_confuse_4 : decode cX11_confuse 4 = .ok (.ifCond .eq 25, 3) := by decide +kernel
theorem dX11_confuse_7 : decode cX11_confuse 7 = .ok (.iload_n 2, 1) := by decide +kernel
theorem dX11_confuse_8 : decode cX11_confuse 8 = .ok (.invokestatic 120, 3) := by decide +kernel
theorem dX11_confuse_11 : decode cX11_confuse 11 = .ok (.ifCond .eq 18, 3) := by decide +kernel
theorem dX11_confuse_14 : decode cX11_confuse 14 = .ok (.iload_n 1, 1) := by decide +kernel
theorem dX11_confuse_15 : decode cX11_confuse 15 = .ok (.iload_n 2, 1) := by decide +kernel
theorem dX11_confuse_16 : decode cX11_confuse 16 = .ok (.if_icmp .eq 13, 3) := by decide +kernel
theorem dX11_confuse_19 : decode cX11_confuse 19 = .ok (.iload_n 3, 1) := by decide +kernel
theorem dX11_confuse_20 : decode cX11_confuse 20 = .ok (.iconst (-1), 1) := by decide +kernel
theorem dX11_confuse_21 : decode cX11_confuse 21 = .ok (.bipush 20, 2) := by decide +kernel
theorem dX11_confuse_23 : decode cX11_confuse 23 = .ok (.invokestatic 106, 3) := by decide +kernel
theorem dX11_confuse_26 : decode cX11_confuse 26 = .ok (.ifCond .ne 6, 3) := by decide +kernel
theorem dX11_confuse_29 : decode cX11_confuse 29 = .ok (.bipush (-2), 2) := by decide +kernel
theorem dX11_confuse_31 : decode cX11_confuse 31 = .ok (.ireturn, 1) := by decide +kernel
theorem dX11_confuse_32 : decode cX11_confuse 32 = .ok (.aload_n 0, 1) := by decide +kernel
theorem dX11_confuse_33 : decode cX11_confuse 33 = .ok (.iload_n 1, 1) := by decide +kernel
theorem dX11_confuse_34 : decode cX11_confuse 34 = .ok (.iload_n 2, 1) := by decide +kernel
theorem dX11_confuse_35 : decode cX11_confuse 35 = .ok (.invokevirtual 123, 3) := by decide +kernel
theorem dX11_confuse_38 : decode cX11_confuse 38 = .ok (.istore 4, 2) := by decide +kernel
theorem dX11_confuse_40 : decode cX11_confuse 40 = .ok (.iload 4, 2) := by decide +kernel
theorem dX11_confuse_42 : decode cX11_confuse 42 = .ok (.iconst (-1), 1) := by decide +kernel
theorem dX11_confuse_43 : decode cX11_confuse 43 = .ok (.if_icmp .ne 7, 3) := by decide +kernel
theorem dX11_confuse_46 : decode cX11_confuse 46 = .ok (.iconst (-1), 1) := by decide +kernel
theorem dX11_confuse_47 : decode cX11_confuse 47 = .ok (.goto 10, 3) := by decide +kernel
theorem dX11_confuse_50 : decode cX11_confuse 50 = .ok (.aload_n 0, 1) := by decide +kernel
theorem dX11_confuse_51 : decode cX11_confuse 51 = .ok (.getfield 26, 3) := by decide +kernel
theorem dX11_confuse_54 : decode cX11_confuse 54 = .ok (.iload 4, 2) := by decide +kernel
theorem dX11_confuse_56 : decode cX11_confuse 56 = .ok (.iaload, 1) := by decide +kernel
theorem dX11_confuse_57 : decode cX11_confuse 57 = .ok (.istore 5, 2) := by decide +kernel
theorem dX11_confuse_59 : decode cX11_confuse 59 = .ok (.iload_n 3, 1) := by decide +kernel
theorem dX11_confuse_60 : decode cX11_confuse 60 = .ok (.iconst (-1), 1) := by decide +kernel
theorem dX11_confuse_61 : decode cX11_confuse 61 = .ok (.if_icmp .ne 72, 3) := by decide +kernel
theorem dX11_confuse_64 : decode cX11_confuse 64 = .ok (.iload 4, 2) := by decide +kernel
theorem dX11_confuse_66 : decode cX11_confuse 66 = .ok (.iconst (-1), 1) := by decide +kernel
theorem dX11_confuse_67 : decode cX11_confuse 67 = .ok (.if_icmp .ne 5, 3) := by decide +kernel
theorem dX11_confuse_70 : decode cX11_confuse 70 = .ok (.iconst (-1), 1) := by decide +kernel
theorem dX11_confuse_71 : decode cX11_confuse 71 = .ok (.ireturn, 1) := by decide +kernel
theorem dX11_confuse_72 : decode cX11_confuse 72 = .ok (.aload_n 0, 1) := by decide +kernel
theorem dX11_confuse_73 : decode cX11_confuse 73 = .ok (.dup, 1) := by decide +kernel
theorem dX11_confuse_74 : decode cX11_confuse 74 = .ok (.getfield 117, 3) := by decide +kernel
theorem dX11_confuse_77 : decode cX11_confuse 77 = .ok (.iconst 1, 1) := by decide +kernel
theorem dX11_confuse_78 : decode cX11_confuse 78 = .ok (.isub, 1) := by decide +kernel
theorem dX11_confuse_79 : decode cX11_confuse 79 = .ok (.putfield 117, 3) := by decide +kernel
theorem dX11_confuse_82 : decode cX11_confuse 82 = .ok (.aload_n 0, 1) := by decide +kernel
theorem dX11_confuse_83 : decode cX11_confuse 83 = .ok (.getfield 20, 3) := by decide +kernel
theorem dX11_confuse_86 : decode cX11_confuse 86 = .ok (.iload 4, 2) := by decide +kernel
theorem dX11_confuse_88 : decode cX11_confuse 88 = .ok (.aload_n 0, 1) := by decide +kernel
theorem dX11_confuse_89 : decode cX11_confuse 89 = .ok (.getfield 20, 3) := by decide +kernel
theorem dX11_confuse_92 : decode cX11_confuse 92 = .ok (.aload_n 0, 1) := by decide +kernel
theorem dX11_confuse_93 : decode cX11_confuse 93 = .ok (.getfield 117, 3) := by decide +kernel
theorem dX11_confuse_96 : decode cX11_confuse 96 = .ok (.iaload, 1) := by decide +kernel
theorem dX11_confuse_97 : decode cX11_confuse 97 = .ok (.iastore, 1) := by decide +kernel
theorem dX11_confuse_98 : decode cX11_confuse 98 = .ok (.aload_n 0, 1) := by decide +kernel
theorem dX11_confuse_99 : decode cX11_confuse 99 = .ok (.getfield 23, 3) := by decide +kernel
theorem dX11_confuse_102 : decode cX11_confuse 102 = .ok (.iload 4, 2) := by decide +kernel
theorem dX11_confuse_104 : decode cX11_confuse 104 = .ok (.aload_n 0, 1) := by decide +kernel
theorem dX11_confuse_105 : decode cX11_confuse 105 = .ok (.getfield 23, 3) := by decide +kernel
theorem dX11_confuse_108 : decode cX11_confuse 108 = .ok (.aload_n 0, 1) := by decide +kernel
theorem dX11_confuse_109 : decode cX11_confuse 109 = .ok (.getfield 117, 3) := by decide +kernel
theorem dX11_confuse_112 : decode cX11_confuse 112 = .ok (.iaload, 1) := by decide +kernel
theorem dX11_confuse_113 : decode cX11_confuse 113 = .ok (.iastore, 1) := by decide +kernel
theorem dX11_confuse_114 : decode cX11_confuse 114 = .ok (.aload_n 0, 1) := by decide +kernel
theorem dX11_confuse_115 : decode cX11_confuse 115 = .ok (.getfield 26, 3) := by decide +kernel
theorem dX11_confuse_118 : decode cX11_confuse 118 = .ok (.iload 4, 2) := by decide +kernel
theorem dX11_confuse_120 : decode cX11_confuse 120 = .ok (.aload_n 0, 1) := by decide +kernel
theorem dX11_confuse_121 : decode cX11_confuse 121 = .ok (.getfield 26, 3) := by decide +kernel
theorem dX11_confuse_124 : decode cX11_confuse 124 = .ok (.aload_n 0, 1) := by decide +kernel
theorem dX11_confuse_125 : decode cX11_confuse 125 = .ok (.getfield 117, 3) := by decide +kernel
theorem dX11_confuse_128 : decode cX11_confuse 128 = .ok (.iaload, 1) := by decide +kernel
theorem dX11_confuse_129 : decode cX11_confuse 129 = .ok (.iastore, 1) := by decide +kernel
theorem dX11_confuse_130 : decode cX11_confuse 130 = .ok (.goto 72, 3) := by decide +kernel
theorem dX11_confuse_133 : decode cX11_confuse 133 = .ok (.iload 4, 2) := by decide +kernel
theorem dX11_confuse_135 : decode cX11_confuse 135 = .ok (.iconst (-1), 1) := by decide +kernel
theorem dX11_confuse_136 : decode cX11_confuse 136 = .ok (.if_icmp .eq 14, 3) := by decide +kernel
theorem dX11_confuse_139 : decode cX11_confuse 139 = .ok (.aload_n 0, 1) := by decide +kernel
theorem dX11_confuse_140 : decode cX11_confuse 140 = .ok (.getfield 26, 3) := by decide +kernel
theorem dX11_confuse_143 : decode cX11_confuse 143 = .ok (.iload 4, 2) := by decide +kernel
theorem dX11_confuse_145 : decode cX11_confuse 145 = .ok (.iload_n 3, 1) := by decide +kernel
theorem dX11_confuse_146 : decode cX11_confuse 146 = .ok (.iastore, 1) := by decide +kernel
theorem dX11_confuse_147 : decode cX11_confuse 147 = .ok (.goto 55, 3) := by decide +kernel
theorem dX11_confuse_150 : decode cX11_confuse 150 = .ok (.aload_n 0, 1) := by decide +kernel
theorem dX11_confuse_151 : decode cX11_confuse 151 = .ok (.getfield 117, 3) := by decide +kernel
theorem dX11_confuse_154 : decode cX11_confuse 154 = .ok (.bipush 60, 2) := by decide +kernel
theorem dX11_confuse_156 : decode cX11_confuse 156 = .ok (.if_icmp .ne 6, 3) := by decide +kernel
theorem dX11_confuse_159 : decode cX11_confuse 159 = .ok (.bipush (-3), 2) := by decide +kernel
theorem dX11_confuse_161 : decode cX11_confuse 161 = .ok (.ireturn, 1) := by decide +kernel
theorem dX11_confuse_162 : decode cX11_confuse 162 = .ok (.aload_n 0, 1) := by decide +kernel
theorem dX11_confuse_163 : decode cX11_confuse 163 = .ok (.getfield 20, 3) := by decide +kernel
theorem dX11_confuse_166 : decode cX11_confuse 166 = .ok (.aload_n 0, 1) := by decide +kernel
theorem dX11_confuse_167 : decode cX11_confuse 167 = .ok (.getfield 117, 3) := by decide +kernel
theorem dX11_confuse_170 : decode cX11_confuse 170 = .ok (.iload_n 1, 1) := by decide +kernel
theorem dX11_confuse_171 : decode cX11_confuse 171 = .ok (.iastore, 1) := by decide +kernel
theorem dX11_confuse_172 : decode cX11_confuse 172 = .ok (.aload_n 0, 1) := by decide +kernel
theorem dX11_confuse_173 : decode cX11_confuse 173 = .ok (.getfield 23, 3) := by decide +kernel
theorem dX11_confuse_176 : decode cX11_confuse 176 = .ok (.aload_n 0, 1) := by decide +kernel
theorem dX11_confuse_177 : decode cX11_confuse 177 = .ok (.getfield 117, 3) := by decide +kernel
theorem dX11_confuse_180 : decode cX11_confuse 180 = .ok (.iload_n 2, 1) := by decide +kernel
theorem dX11_confuse_181 : decode cX11_confuse 181 = .ok (.iastore, 1) := by decide +kernel
theorem dX11_confuse_182 : decode cX11_confuse 182 = .ok (.aload_n 0, 1) := by decide +kernel
theorem dX11_confuse_183 : decode cX11_confuse 183 = .ok (.getfield 26, 3) := by decide +kernel
theorem dX11_confuse_186 : decode cX11_confuse 186 = .ok (.aload_n 0, 1) := by decide +kernel
theorem dX11_confuse_187 : decode cX11_confuse 187 = .ok (.getfield 117, 3) := by decide +kernel
theorem dX11_confuse_190 : decode cX11_confuse 190 = .ok (.iload_n 3, 1) := by decide +kernel
theorem dX11_confuse_191 : decode cX11_confuse 191 = .ok (.iastore, 1) := by decide +kernel
theorem dX11_confuse_192 : decode cX11_confuse 192 = .ok (.aload_n 0, 1) := by decide +kernel
theorem dX11_confuse_193 : decode cX11_confuse 193 = .ok (.dup, 1) := by decide +kernel
theorem dX11_confuse_194 : decode cX11_confuse 194 = .ok (.getfield 117, 3) := by decide +kernel
theorem dX11_confuse_197 : decode cX11_confuse 197 = .ok (.iconst 1, 1) := by decide +kernel
theorem dX11_confuse_198 : decode cX11_confuse 198 = .ok (.iadd, 1) := by decide +kernel
theorem dX11_confuse_199 : decode cX11_confuse 199 = .ok (.putfield 117, 3) := by decide +kernel
theorem dX11_confuse_202 : decode cX11_confuse 202 = .ok (.aload_n 0, 1) := by decide +kernel
theorem dX11_confuse_203 : decode cX11_confuse 203 = .ok (.invokevirtual 103, 3) := by decide +kernel
theorem dX11_confuse_206 : decode cX11_confuse 206 = .ok (.iload 5, 2) := by decide +kernel
theorem dX11_confuse_208 : decode cX11_confuse 208 = .ok (.ireturn, 1) := by decide +kernel
theorem dX11_nodeOf_0 : decode cX11_nodeOf 0 = .ok (.iload_n 1, 1) := by decide +kernel
theorem dX11_nodeOf_1 : decode cX11_nodeOf 1 = .ok (.sipush 256, 3) := by decide +kernel
theorem dX11_nodeOf_4 : decode cX11_nodeOf 4 = .ok (.if_icmp .ge 15, 3) := by decide +kernel
theorem dX11_nodeOf_7 : decode cX11_nodeOf 7 = .ok (.aload_n 0, 1) := by decide +kernel
theorem dX11_nodeOf_8 : decode cX11_nodeOf 8 = .ok (.getfield 29, 3) := by decide +kernel
theorem dX11_nodeOf_11 : decode cX11_nodeOf 11 = .ok (.iload_n 1, 1) := by decide +kernel
theorem dX11_nodeOf_12 : decode cX11_nodeOf 12 = .ok (.bipush 33, 2) := by decide +kernel
theorem dX11_nodeOf_14 : decode cX11_nodeOf 14 = .ok (.isub, 1) := by decide +kernel
theorem dX11_nodeOf_15 : decode cX11_nodeOf 15 = .ok (.iaload, 1) := by decide +kernel
theorem dX11_nodeOf_16 : decode cX11_nodeOf 16 = .ok (.goto 28, 3) := by decide +kernel
theorem dX11_nodeOf_19 : decode cX11_nodeOf 19 = .ok (.aload_n 0, 1) := by decide +kernel
theorem dX11_nodeOf_20 : decode cX11_nodeOf 20 = .ok (.getfield 32, 3) := by decide +kernel
theorem dX11_nodeOf_23 : decode cX11_nodeOf 23 = .ok (.bipush 94, 2) := by decide +kernel
theorem dX11_nodeOf_25 : decode cX11_nodeOf 25 = .ok (.iload_n 1, 1) := by decide +kernel
theorem dX11_nodeOf_26 : decode cX11_nodeOf 26 = .ok (.sipush 256, 3) := by decide +kernel
theorem dX11_nodeOf_29 : decode cX11_nodeOf 29 = .ok (.idiv, 1) := by decide +kernel
theorem dX11_nodeOf_30 : decode cX11_nodeOf 30 = .ok (.bipush 33, 2) := by decide +kernel
theorem dX11_nodeOf_32 : decode cX11_nodeOf 32 = .ok (.isub, 1) := by decide +kernel
theorem dX11_nodeOf_33 : decode cX11_nodeOf 33 = .ok (.imul, 1) := by decide +kernel
theorem dX11_nodeOf_34 : decode cX11_nodeOf 34 = .ok (.iload_n 1, 1) := by decide +kernel
theorem dX11_nodeOf_35 : decode cX11_nodeOf 35 = .ok (.sipush 256, 3) := by decide +kernel
theorem dX11_nodeOf_38 : decode cX11_nodeOf 38 = .ok (.irem, 1) := by decide +kernel
theorem dX11_nodeOf_39 : decode cX11_nodeOf 39 = .ok (.iadd, 1) := by decide +kernel
theorem dX11_nodeOf_40 : decode cX11_nodeOf 40 = .ok (.bipush 33, 2) := by decide +kernel
theorem dX11_nodeOf_42 : decode cX11_nodeOf 42 = .ok (.isub, 1) := by decide +kernel
theorem dX11_nodeOf_43 : decode cX11_nodeOf 43 = .ok (.iaload, 1) := by decide +kernel
theorem dX11_nodeOf_44 : decode cX11_nodeOf 44 = .ok (.ireturn, 1) := by decide +kernel
theorem dX11_node_0 : decode cX11_node 0 = .ok (.aload_n 0, 1) := by decide +kernel
theorem dX11_node_1 : decode cX11_node 1 = .ok (.iload_n 1, 1) := by decide +kernel
theorem dX11_node_2 : decode cX11_node 2 = .ok (.invokevirtual 127, 3) := by decide +kernel
theorem dX11_node_5 : decode cX11_node 5 = .ok (.iconst (-1), 1) := by decide +kernel
theorem dX11_node_6 : decode cX11_node 6 = .ok (.if_icmp .eq 9, 3) := by decide +kernel
theorem dX11_node_9 : decode cX11_node 9 = .ok (.aload_n 0, 1) := by decide +kernel
theorem dX11_node_10 : decode cX11_node 10 = .ok (.iload_n 1, 1) := by decide +kernel
theorem dX11_node_11 : decode cX11_node 11 = .ok (.invokevirtual 127, 3) := by decide +kernel
theorem dX11_node_14 : decode cX11_node 14 = .ok (.ireturn, 1) := by decide +kernel
theorem dX11_node_15 : decode cX11_node 15 = .ok (.iload_n 1, 1) := by decide +kernel
theorem dX11_node_16 : decode cX11_node 16 = .ok (.sipush 256, 3) := by decide +kernel
theorem dX11_node_19 : decode cX11_node 19 = .ok (.if_icmp .ge 19, 3) := by decide +kernel
theorem dX11_node_22 : decode cX11_node 22 = .ok (.aload_n 0, 1) := by decide +kernel
theorem dX11_node_23 : decode cX11_node 23 = .ok (.getfield 29, 3) := by decide +kernel
theorem dX11_node_26 : decode cX11_node 26 = .ok (.iload_n 1, 1) := by decide +kernel
theorem dX11_node_27 : decode cX11_node 27 = .ok (.bipush 33, 2) := by decide +kernel
theorem dX11_node_29 : decode cX11_node 29 = .ok (.isub, 1) := by decide +kernel
theorem dX11_node_30 : decode cX11_node 30 = .ok (.aload_n 0, 1) := by decide +kernel
theorem dX11_node_31 : decode cX11_node 31 = .ok (.getfield 131, 3) := by decide +kernel
theorem dX11_node_34 : decode cX11_node 34 = .ok (.iastore, 1) := by decide +kernel
theorem dX11_node_35 : decode cX11_node 35 = .ok (.goto 32, 3) := by decide +kernel
theorem dX11_node_38 : decode cX11_node 38 = .ok (.aload_n 0, 1) := by decide +kernel
theorem dX11_node_39 : decode cX11_node 39 = .ok (.getfield 32, 3) := by decide +kernel
theorem dX11_node_42 : decode cX11_node 42 = .ok (.bipush 94, 2) := by decide +kernel
theorem dX11_node_44 : decode cX11_node 44 = .ok (.iload_n 1, 1) := by decide +kernel
theorem dX11_node_45 : decode cX11_node 45 = .ok (.sipush 256, 3) := by decide +kernel
theorem dX11_node_48 : decode cX11_node 48 = .ok (.idiv, 1) := by decide +kernel
theorem dX11_node_49 : decode cX11_node 49 = .ok (.bipush 33, 2) := by decide +kernel
theorem dX11_node_51 : decode cX11_node 51 = .ok (.isub, 1) := by decide +kernel
theorem dX11_node_52 : decode cX11_node 52 = .ok (.imul, 1) := by decide +kernel
theorem dX11_node_53 : decode cX11_node 53 = .ok (.iload_n 1, 1) := by decide +kernel
theorem dX11_node_54 : decode cX11_node 54 = .ok (.sipush 256, 3) := by decide +kernel
theorem dX11_node_57 : decode cX11_node 57 = .ok (.irem, 1) := by decide +kernel
theorem dX11_node_58 : decode cX11_node 58 = .ok (.iadd, 1) := by decide +kernel
theorem dX11_node_59 : decode cX11_node 59 = .ok (.bipush 33, 2) := by decide +kernel
theorem dX11_node_61 : decode cX11_node 61 = .ok (.isub, 1) := by decide +kernel
theorem dX11_node_62 : decode cX11_node 62 = .ok (.aload_n 0, 1) := by decide +kernel
theorem dX11_node_63 : decode cX11_node 63 = .ok (.getfield 131, 3) := by decide +kernel
theorem dX11_node_66 : decode cX11_node 66 = .ok (.iastore, 1) := by decide +kernel
theorem dX11_node_67 : decode cX11_node 67 = .ok (.aload_n 0, 1) := by decide +kernel
theorem dX11_node_68 : decode cX11_node 68 = .ok (.dup, 1) := by decide +kernel
theorem dX11_node_69 : decode cX11_node 69 = .ok (.getfield 131, 3) := by decide +kernel
theorem dX11_node_72 : decode cX11_node 72 = .ok (.iconst 1, 1) := by decide +kernel
theorem dX11_node_73 : decode cX11_node 73 = .ok (.iadd, 1) := by decide +kernel
theorem dX11_node_74 : decode cX11_node 74 = .ok (.putfield 131, 3) := by decide +kernel
theorem dX11_node_77 : decode cX11_node 77 = .ok (.aload_n 0, 1) := by decide +kernel
theorem dX11_node_78 : decode cX11_node 78 = .ok (.getfield 131, 3) := by decide +kernel
theorem dX11_node_81 : decode cX11_node 81 = .ok (.iconst 1, 1) := by decide +kernel
theorem dX11_node_82 : decode cX11_node 82 = .ok (.isub, 1) := by decide +kernel
theorem dX11_node_83 : decode cX11_node 83 = .ok (.ireturn, 1) := by decide +kernel
theorem dX11_makeNodes_0 : decode cX11_makeNodes 0 = .ok (.aload_n 0, 1) := by decide +kernel
theorem dX11_makeNodes_1 : decode cX11_makeNodes 1 = .ok (.iconst 0, 1) := by decide +kernel
theorem dX11_makeNodes_2 : decode cX11_makeNodes 2 = .ok (.putfield 131, 3) := by decide +kernel
theorem dX11_makeNodes_5 : decode cX11_makeNodes 5 = .ok (.iconst 0, 1) := by decide +kernel
theorem dX11_makeNodes_6 : decode cX11_makeNodes 6 = .ok (.istore_n 1, 1) := by decide +kernel
theorem dX11_makeNodes_7 : decode cX11_makeNodes 7 = .ok (.iload_n 1, 1) := by decide +kernel
theorem dX11_makeNodes_8 : decode cX11_makeNodes 8 = .ok (.bipush 94, 2) := by decide +kernel
theorem dX11_makeNodes_10 : decode cX11_makeNodes 10 = .ok (.if_icmp .ge 16, 3) := by decide +kernel
theorem dX11_makeNodes_13 : decode cX11_makeNodes 13 = .ok (.aload_n 0, 1) := by decide +kernel
theorem dX11_makeNodes_14 : decode cX11_makeNodes 14 = .ok (.getfield 29, 3) := by decide +kernel
theorem dX11_makeNodes_17 : decode cX11_makeNodes 17 = .ok (.iload_n 1, 1) := by decide +kernel
theorem dX11_makeNodes_18 : decode cX11_makeNodes 18 = .ok (.iconst (-1), 1) := by decide +kernel
theorem dX11_makeNodes_19 : decode cX11_makeNodes 19 = .ok (.iastore, 1) := by decide +kernel
theorem dX11_makeNodes_20 : decode cX11_makeNodes 20 = .ok (.iinc 1 1, 3) := by decide +kernel
theorem dX11_makeNodes_23 : decode cX11_makeNodes 23 = .ok (.goto (-16), 3) := by decide +kernel
theorem dX11_makeNodes_26 : decode cX11_makeNodes 26 = .ok (.iconst 0, 1) := by decide +kernel
theorem dX11_makeNodes_27 : decode cX11_makeNodes 27 = .ok (.istore_n 1, 1) := by decide +kernel
theorem dX11_makeNodes_28 : decode cX11_makeNodes 28 = .ok (.iload_n 1, 1) := by decide +kernel
theorem dX11_makeNodes_29 : decode cX11_makeNodes 29 = .ok (.sipush 8836, 3) := by decide +kernel
theorem dX11_makeNodes_32 : decode cX11_makeNodes 32 = .ok (.if_icmp .ge 16, 3) := by decide +kernel
theorem dX11_makeNodes_35 : decode cX11_makeNodes 35 = .ok (.aload_n 0, 1) := by decide +kernel
theorem dX11_makeNodes_36 : decode cX11_makeNodes 36 = .ok (.getfield 32, 3) := by decide +kernel
theorem dX11_makeNodes_39 : decode cX11_makeNodes 39 = .ok (.iload_n 1, 1) := by decide +kernel
theorem dX11_makeNodes_40 : decode cX11_makeNodes 40 = .ok (.iconst (-1), 1) := by decide +kernel
theorem dX11_makeNodes_41 : decode cX11_makeNodes 41 = .ok (.iastore, 1) := by decide +kernel
theorem dX11_makeNodes_42 : decode cX11_makeNodes 42 = .ok (.iinc 1 1, 3) := by decide +kernel
theorem dX11_makeNodes_45 : decode cX11_makeNodes 45 = .ok (.goto (-17), 3) := by decide +kernel
theorem dX11_makeNodes_48 : decode cX11_makeNodes 48 = .ok (.iconst 0, 1) := by decide +kernel
theorem dX11_makeNodes_49 : decode cX11_makeNodes 49 = .ok (.istore_n 1, 1) := by decide +kernel
theorem dX11_makeNodes_50 : decode cX11_makeNodes 50 = .ok (.iload_n 1, 1) := by decide +kernel
theorem dX11_makeNodes_51 : decode cX11_makeNodes 51 = .ok (.sipush 14400, 3) := by decide +kernel
theorem dX11_makeNodes_54 : decode cX11_makeNodes 54 = .ok (.if_icmp .ge 28, 3) := by decide +kernel
theorem dX11_makeNodes_57 : decode cX11_makeNodes 57 = .ok (.aload_n 0, 1) := by decide +kernel
theorem dX11_makeNodes_58 : decode cX11_makeNodes 58 = .ok (.getfield 35, 3) := by decide +kernel
theorem dX11_makeNodes_61 : decode cX11_makeNodes 61 = .ok (.iload_n 1, 1) := by decide +kernel
theorem dX11_makeNodes_62 : decode cX11_makeNodes 62 = .ok (.iload_n 1, 1) := by decide +kernel
theorem dX11_makeNodes_63 : decode cX11_makeNodes 63 = .ok (.bipush 121, 2) := by decide +kernel
theorem dX11_makeNodes_65 : decode cX11_makeNodes 65 = .ok (.irem, 1) := by decide +kernel
theorem dX11_makeNodes_66 : decode cX11_makeNodes 66 = .ok (.ifCond .ne 7, 3) := by decide +kernel
theorem dX11_makeNodes_69 : decode cX11_makeNodes 69 = .ok (.iconst 0, 1) := by decide +kernel
theorem dX11_makeNodes_70 : decode cX11_makeNodes 70 = .ok (.goto 5, 3) := by decide +kernel
theorem dX11_makeNodes_73 : decode cX11_makeNodes 73 = .ok (.ldc 134, 2) := by decide +kernel
theorem dX11_makeNodes_75 : decode cX11_makeNodes 75 = .ok (.iastore, 1) := by decide +kernel
theorem dX11_makeNodes_76 : decode cX11_makeNodes 76 = .ok (.iinc 1 1, 3) := by decide +kernel
theorem dX11_makeNodes_79 : decode cX11_makeNodes 79 = .ok (.goto (-29), 3) := by decide +kernel
theorem dX11_makeNodes_82 : decode cX11_makeNodes 82 = .ok (.iconst 0, 1) := by decide +kernel
theorem dX11_makeNodes_83 : decode cX11_makeNodes 83 = .ok (.istore_n 1, 1) := by decide +kernel
theorem dX11_makeNodes_84 : decode cX11_makeNodes 84 = .ok (.iload_n 1, 1) := by decide +kernel
theorem dX11_makeNodes_85 : decode cX11_makeNodes 85 = .ok (.aload_n 0, 1) := by decide +kernel
theorem dX11_makeNodes_86 : decode cX11_makeNodes 86 = .ok (.getfield 117, 3) := by decide +kernel
theorem dX11_makeNodes_89 : decode cX11_makeNodes 89 = .ok (.if_icmp .ge 65, 3) := by decide +kernel
theorem dX11_makeNodes_92 : decode cX11_makeNodes 92 = .ok (.aload_n 0, 1) := by decide +kernel
theorem dX11_makeNodes_93 : decode cX11_makeNodes 93 = .ok (.aload_n 0, 1) := by decide +kernel
theorem dX11_makeNodes_94 : decode cX11_makeNodes 94 = .ok (.getfield 20, 3) := by decide +kernel
theorem dX11_makeNodes_97 : decode cX11_makeNodes 97 = .ok (.iload_n 1, 1) := by decide +kernel
theorem dX11_makeNodes_98 : decode cX11_makeNodes 98 = .ok (.iaload, 1) := by decide +kernel
theorem dX11_makeNodes_99 : decode cX11_makeNodes 99 = .ok (.invokevirtual 135, 3) := by decide +kernel
theorem dX11_makeNodes_102 : decode cX11_makeNodes 102 = .ok (.istore_n 2, 1) := by decide +kernel
theorem dX11_makeNodes_103 : decode cX11_makeNodes 103 = .ok (.aload_n 0, 1) := by decide +kernel
theorem dX11_makeNodes_104 : decode cX11_makeNodes 104 = .ok (.aload_n 0, 1) := by decide +kernel
theorem dX11_makeNodes_105 : decode cX11_makeNodes 105 = .ok (.getfield 23, 3) := by decide +kernel
theorem dX11_makeNodes_108 : decode cX11_makeNodes 108 = .ok (.iload_n 1, 1) := by decide +kernel
theorem dX11_makeNodes_109 : decode cX11_makeNodes 109 = .ok (.iaload, 1) := by decide +kernel
theorem dX11_makeNodes_110 : decode cX11_makeNodes 110 = .ok (.invokevirtual 135, 3) := by decide +kernel
theorem dX11_makeNodes_113 : decode cX11_makeNodes 113 = .ok (.istore_n 3, 1) := by decide +kernel
theorem dX11_makeNodes_114 : decode cX11_makeNodes 114 = .ok (.aload_n 0, 1) := by decide +kernel
theorem dX11_makeNodes_115 : decode cX11_makeNodes 115 = .ok (.getfield 35, 3) := by decide +kernel
theorem dX11_makeNodes_118 : decode cX11_makeNodes 118 = .ok (.bipush 120, 2) := by decide +kernel
theorem dX11_makeNodes_120 : decode cX11_makeNodes 120 = .ok (.iload_n 2, 1) := by decide +kernel
theorem dX11_makeNodes_121 : decode cX11_makeNodes 121 = .ok (.imul, 1) := by decide +kernel
theorem dX11_makeNodes_122 : decode cX11_makeNodes 122 = .ok (.iload_n 3, 1) := by decide +kernel
theorem dX11_makeNodes_123 : decode cX11_makeNodes 123 = .ok (.iadd, 1) := by decide +kernel
theorem dX11_makeNodes_124 : decode cX11_makeNodes 124 = .ok (.aload_n 0, 1) := by decide +kernel
theorem dX11_makeNodes_125 : decode cX11_makeNodes 125 = .ok (.getfield 26, 3) := by decide +kernel
theorem dX11_makeNodes_128 : decode cX11_makeNodes 128 = .ok (.iload_n 1, 1) := by decide +kernel
theorem dX11_makeNodes_129 : decode cX11_makeNodes 129 = .ok (.iaload, 1) := by decide +kernel
theorem dX11_makeNodes_130 : decode cX11_makeNodes 130 = .ok (.iastore, 1) := by decide +kernel
theorem dX11_makeNodes_131 : decode cX11_makeNodes 131 = .ok (.aload_n 0, 1) := by decide +kernel
theorem dX11_makeNodes_132 : decode cX11_makeNodes 132 = .ok (.getfield 35, 3) := by decide +kernel
theorem dX11_makeNodes_135 : decode cX11_makeNodes 135 = .ok (.bipush 120, 2) := by decide +kernel
theorem dX11_makeNodes_137 : decode cX11_makeNodes 137 = .ok (.iload_n 3, 1) := by decide +kernel
theorem dX11_makeNodes_138 : decode cX11_makeNodes 138 = .ok (.imul, 1) := by decide +kernel
theorem dX11_makeNodes_139 : decode cX11_makeNodes 139 = .ok (.iload_n 2, 1) := by decide +kernel
theorem dX11_makeNodes_140 : decode cX11_makeNodes 140 = .ok (.iadd, 1) := by decide +kernel
theorem dX11_makeNodes_141 : decode cX11_makeNodes 141 = .ok (.aload_n 0, 1) := by decide +kernel
theorem dX11_makeNodes_142 : decode cX11_makeNodes 142 = .ok (.getfield 26, 3) := by decide +kernel
theorem dX11_makeNodes_145 : decode cX11_makeNodes 145 = .ok (.iload_n 1, 1) := by decide +kernel
theorem dX11_makeNodes_146 : decode cX11_makeNodes 146 = .ok (.iaload, 1) := by decide +kernel
theorem dX11_makeNodes_147 : decode cX11_makeNodes 147 = .ok (.iastore, 1) := by decide +kernel
theorem dX11_makeNodes_148 : decode cX11_makeNodes 148 = .ok (.iinc 1 1, 3) := by decide +kernel
theorem dX11_makeNodes_151 : decode cX11_makeNodes 151 = .ok (.goto (-67), 3) := by decide +kernel
theorem dX11_makeNodes_154 : decode cX11_makeNodes 154 = .ok (.iconst 0, 1) := by decide +kernel
theorem dX11_makeNodes_155 : decode cX11_makeNodes 155 = .ok (.istore_n 1, 1) := by decide +kernel
theorem dX11_makeNodes_156 : decode cX11_makeNodes 156 = .ok (.iload_n 1, 1) := by decide +kernel
theorem dX11_makeNodes_157 : decode cX11_makeNodes 157 = .ok (.aload_n 0, 1) := by decide +kernel
theorem dX11_makeNodes_158 : decode cX11_makeNodes 158 = .ok (.getfield 131, 3) := by decide +kernel
theorem dX11_makeNodes_161 : decode cX11_makeNodes 161 = .ok (.if_icmp .ge 95, 3) := by decide +kernel
theorem dX11_makeNodes_164 : decode cX11_makeNodes 164 = .ok (.iconst 0, 1) := by decide +kernel
theorem dX11_makeNodes_165 : decode cX11_makeNodes 165 = .ok (.istore_n 2, 1) := by decide +kernel
theorem dX11_makeNodes_166 : decode cX11_makeNodes 166 = .ok (.iload_n 2, 1) := by decide +kernel
theorem dX11_makeNodes_167 : decode cX11_makeNodes 167 = .ok (.aload_n 0, 1) := by decide +kernel
theorem dX11_makeNodes_168 : decode cX11_makeNodes 168 = .ok (.getfield 131, 3) := by decide +kernel
theorem dX11_makeNodes_171 : decode cX11_makeNodes 171 = .ok (.if_icmp .ge 79, 3) := by decide +kernel
theorem dX11_makeNodes_174 : decode cX11_makeNodes 174 = .ok (.iconst 0, 1) := by decide +kernel
theorem dX11_makeNodes_175 : decode cX11_makeNodes 175 = .ok (.istore_n 3, 1) := by decide +kernel
theorem dX11_makeNodes_176 : decode cX11_makeNodes 176 = .ok (.iload_n 3, 1) := by decide +kernel
theorem dX11_makeNodes_177 : decode cX11_makeNodes 177 = .ok (.aload_n 0, 1) := by decide +kernel
theorem dX11_makeNodes_178 : decode cX11_makeNodes 178 = .ok (.getfield 131, 3) := by decide +kernel
theorem dX11_makeNodes_181 : decode cX11_makeNodes 181 = .ok (.if_icmp .ge 63, 3) := by decide +kernel
theorem dX11_makeNodes_184 : decode cX11_makeNodes 184 = .ok (.aload_n 0, 1) := by decide +kernel
theorem dX11_makeNodes_185 : decode cX11_makeNodes 185 = .ok (.getfield 35, 3) := by decide +kernel
theorem dX11_makeNodes_188 : decode cX11_makeNodes 188 = .ok (.bipush 120, 2) := by decide +kernel
theorem dX11_makeNodes_190 : decode cX11_makeNodes 190 = .ok (.iload_n 2, 1) := by decide +kernel
theorem dX11_makeNodes_191 : decode cX11_makeNodes 191 = .ok (.imul, 1) := by decide +kernel
theorem dX11_makeNodes_192 : decode cX11_makeNodes 192 = .ok (.iload_n 1, 1) := by decide +kernel
theorem dX11_makeNodes_193 : decode cX11_makeNodes 193 = .ok (.iadd, 1) := by decide +kernel
theorem dX11_makeNodes_194 : decode cX11_makeNodes 194 = .ok (.iaload, 1) := by decide +kernel
theorem dX11_makeNodes_195 : decode cX11_makeNodes 195 = .ok (.aload_n 0, 1) := by decide +kernel
theorem dX11_makeNodes_196 : decode cX11_makeNodes 196 = .ok (.getfield 35, 3) := by decide +kernel
theorem dX11_makeNodes_199 : decode cX11_makeNodes 199 = .ok (.bipush 120, 2) := by decide +kernel
theorem dX11_makeNodes_201 : decode cX11_makeNodes 201 = .ok (.iload_n 1, 1) := by decide +kernel
theorem dX11_makeNodes_202 : decode cX11_makeNodes 202 = .ok (.imul, 1) := by decide +kernel
theorem dX11_makeNodes_203 : decode cX11_makeNodes 203 = .ok (.iload_n 3, 1) := by decide +kernel
theorem dX11_makeNodes_204 : decode cX11_makeNodes 204 = .ok (.iadd, 1) := by decide +kernel
theorem dX11_makeNodes_205 : decode cX11_makeNodes 205 = .ok (.iaload, 1) := by decide +kernel
theorem dX11_makeNodes_206 : decode cX11_makeNodes 206 = .ok (.iadd, 1) := by decide +kernel
theorem dX11_makeNodes_207 : decode cX11_makeNodes 207 = .ok (.istore 4, 2) := by decide +kernel
theorem dX11_makeNodes_209 : decode cX11_makeNodes 209 = .ok (.iload 4, 2) := by decide +kernel
theorem dX11_makeNodes_211 : decode cX11_makeNodes 211 = .ok (.aload_n 0, 1) := by decide +kernel
theorem dX11_makeNodes_212 : decode cX11_makeNodes 212 = .ok (.getfield 35, 3) := by decide +kernel
theorem dX11_makeNodes_215 : decode cX11_makeNodes 215 = .ok (.bipush 120, 2) := by decide +kernel
theorem dX11_makeNodes_217 : decode cX11_makeNodes 217 = .ok (.iload_n 2, 1) := by decide +kernel
theorem dX11_makeNodes_218 : decode cX11_makeNodes 218 = .ok (.imul, 1) := by decide +kernel
theorem dX11_makeNodes_219 : decode cX11_makeNodes 219 = .ok (.iload_n 3, 1) := by decide +kernel
theorem dX11_makeNodes_220 : decode cX11_makeNodes 220 = .ok (.iadd, 1) := by decide +kernel
theorem dX11_makeNodes_221 : decode cX11_makeNodes 221 = .ok (.iaload, 1) := by decide +kernel
theorem dX11_makeNodes_222 : decode cX11_makeNodes 222 = .ok (.if_icmp .ge 16, 3) := by decide +kernel
theorem dX11_makeNodes_225 : decode cX11_makeNodes 225 = .ok (.aload_n 0, 1) := by decide +kernel
theorem dX11_makeNodes_226 : decode cX11_makeNodes 226 = .ok (.getfield 35, 3) := by decide +kernel
theorem dX11_makeNodes_229 : decode cX11_makeNodes 229 = .ok (.bipush 120, 2) := by decide +kernel
theorem dX11_makeNodes_231 : decode cX11_makeNodes 231 = .ok (.iload_n 2, 1) := by decide +kernel
theorem dX11_makeNodes_232 : decode cX11_makeNodes 232 = .ok (.imul, 1) := by decide +kernel
theorem dX11_makeNodes_233 : decode cX11_makeNodes 233 = .ok (.iload_n 3, 1) := by decide +kernel
theorem dX11_makeNodes_234 : decode cX11_makeNodes 234 = .ok (.iadd, 1) := by decide +kernel
theorem dX11_makeNodes_235 : decode cX11_makeNodes 235 = .ok (.iload 4, 2) := by decide +kernel
theorem dX11_makeNodes_237 : decode cX11_makeNodes 237 = .ok (.iastore, 1) := by decide +kernel
theorem dX11_makeNodes_238 : decode cX11_makeNodes 238 = .ok (.iinc 3 1, 3) := by decide +kernel
theorem dX11_makeNodes_241 : decode cX11_makeNodes 241 = .ok (.goto (-65), 3) := by decide +kernel
theorem dX11_makeNodes_244 : decode cX11_makeNodes 244 = .ok (.iinc 2 1, 3) := by decide +kernel
theorem dX11_makeNodes_247 : decode cX11_makeNodes 247 = .ok (.goto (-81), 3) := by decide +kernel
theorem dX11_makeNodes_250 : decode cX11_makeNodes 250 = .ok (.iinc 1 1, 3) := by decide +kernel
theorem dX11_makeNodes_253 : decode cX11_makeNodes 253 = .ok (.goto (-97), 3) := by decide +kernel
theorem dX11_makeNodes_256 : decode cX11_makeNodes 256 = .ok (.return_, 1) := by decide +kernel
theorem dX11_chainOf_0 : decode cX11_chainOf 0 = .ok (.iload_n 1, 1) := by decide +kernel
theorem dX11_chainOf_1 : decode cX11_chainOf 1 = .ok (.iload_n 2, 1) := by decide +kernel
theorem dX11_chainOf_2 : decode cX11_chainOf 2 = .ok (.if_icmp .ne 5, 3) := by decide +kernel
theorem dX11_chainOf_5 : decode cX11_chainOf 5 = .ok (.iconst 0, 1) := by decide +kernel
theorem dX11_chainOf_6 : decode cX11_chainOf 6 = .ok (.ireturn, 1) := by decide +kernel
theorem dX11_chainOf_7 : decode cX11_chainOf 7 = .ok (.aload_n 0, 1) := by decide +kernel
theorem dX11_chainOf_8 : decode cX11_chainOf 8 = .ok (.iload_n 1, 1) := by decide +kernel
theorem dX11_chainOf_9 : decode cX11_chainOf 9 = .ok (.invokevirtual 127, 3) := by decide +kernel
theorem dX11_chainOf_12 : decode cX11_chainOf 12 = .ok (.istore_n 3, 1) := by decide +kernel
theorem dX11_chainOf_13 : decode cX11_chainOf 13 = .ok (.aload_n 0, 1) := by decide +kernel
theorem dX11_chainOf_14 : decode cX11_chainOf 14 = .ok (.iload_n 2, 1) := by decide +kernel
theorem dX11_chainOf_15 : decode cX11_chainOf 15 = .ok (.invokevirtual 127, 3) := by decide +kernel
theorem dX11_chainOf_18 : decode cX11_chainOf 18 = .ok (.istore 4, 2) := by decide +kernel
theorem dX11_chainOf_20 : decode cX11_chainOf 20 = .ok (.iload_n 3, 1) := by decide +kernel
theorem dX11_chainOf_21 : decode cX11_chainOf 21 = .ok (.iconst (-1), 1) := by decide +kernel
theorem dX11_chainOf_22 : decode cX11_chainOf 22 = .ok (.if_icmp .eq 9, 3) := by decide +kernel
theorem dX11_chainOf_25 : decode cX11_chainOf 25 = .ok (.iload 4, 2) := by decide +kernel
theorem dX11_chainOf_27 : decode cX11_chainOf 27 = .ok (.iconst (-1), 1) := by decide +kernel
theorem dX11_chainOf_28 : decode cX11_chainOf 28 = .ok (.if_icmp .ne 8, 3) := by decide +kernel
theorem dX11_chainOf_31 : decode cX11_chainOf 31 = .ok (.ldc 134, 2) := by decide +kernel
theorem dX11_chainOf_33 : decode cX11_chainOf 33 = .ok (.goto 15, 3) := by decide +kernel
theorem dX11_chainOf_36 : decode cX11_chainOf 36 = .ok (.aload_n 0, 1) := by decide +kernel
theorem dX11_chainOf_37 : decode cX11_chainOf 37 = .ok (.getfield 35, 3) := by decide +kernel
theorem dX11_chainOf_40 : decode cX11_chainOf 40 = .ok (.bipush 120, 2) := by decide +kernel
theorem dX11_chainOf_42 : decode cX11_chainOf 42 = .ok (.iload_n 3, 1) := by decide +kernel
theorem dX11_chainOf_43 : decode cX11_chainOf 43 = .ok (.imul, 1) := by decide +kernel
theorem dX11_chainOf_44 : decode cX11_chainOf 44 = .ok (.iload 4, 2) := by decide +kernel
theorem dX11_chainOf_46 : decode cX11_chainOf 46 = .ok (.iadd, 1) := by decide +kernel
theorem dX11_chainOf_47 : decode cX11_chainOf 47 = .ok (.iaload, 1) := by decide +kernel
theorem dX11_chainOf_48 : decode cX11_chainOf 48 = .ok (.ireturn, 1) := by decide +kernel
theorem dX11_chain_0 : decode cX11_chain 0 = .ok (.iload_n 1, 1) := by decide +kernel
theorem dX11_chain_1 : decode cX11_chain 1 = .ok (.invokestatic 120, 3) := by decide +kernel
theorem dX11_chain_4 : decode cX11_chain 4 = .ok (.ifCond .eq 10, 3) := by decide +kernel
theorem dX11_chain_7 : decode cX11_chain 7 = .ok (.iload_n 2, 1) := by decide +kernel
theorem dX11_chain_8 : decode cX11_chain 8 = .ok (.invokestatic 120, 3) := by decide +kernel
theorem dX11_chain_11 : decode cX11_chain 11 = .ok (.ifCond .ne 6, 3) := by decide +kernel
theorem dX11_chain_14 : decode cX11_chain 14 = .ok (.bipush (-2), 2) := by decide +kernel
theorem dX11_chain_16 : decode cX11_chain 16 = .ok (.ireturn, 1) := by decide +kernel
theorem dX11_chain_17 : decode cX11_chain 17 = .ok (.aload_n 0, 1) := by decide +kernel
theorem dX11_chain_18 : decode cX11_chain 18 = .ok (.iload_n 1, 1) := by decide +kernel
theorem dX11_chain_19 : decode cX11_chain 19 = .ok (.iload_n 2, 1) := by decide +kernel
theorem dX11_chain_20 : decode cX11_chain 20 = .ok (.invokevirtual 138, 3) := by decide +kernel
theorem dX11_chain_23 : decode cX11_chain 23 = .ok (.istore_n 3, 1) := by decide +kernel
theorem dX11_chain_24 : decode cX11_chain 24 = .ok (.iload_n 3, 1) := by decide +kernel
theorem dX11_chain_25 : decode cX11_chain 25 = .ok (.ldc 134, 2) := by decide +kernel
theorem dX11_chain_27 : decode cX11_chain 27 = .ok (.if_icmp .lt 7, 3) := by decide +kernel
theorem dX11_chain_30 : decode cX11_chain 30 = .ok (.iconst (-1), 1) := by decide +kernel
theorem dX11_chain_31 : decode cX11_chain 31 = .ok (.goto 4, 3) := by decide +kernel
theorem dX11_chain_34 : decode cX11_chain 34 = .ok (.iload_n 3, 1) := by decide +kernel
theorem dX11_chain_35 : decode cX11_chain 35 = .ok (.ireturn, 1) := by decide +kernel
theorem dX11_allow_0 : decode cX11_allow 0 = .ok (.iload_n 1, 1) := by decide +kernel
theorem dX11_allow_1 : decode cX11_allow 1 = .ok (.iconst 2, 1) := by decide +kernel
theorem dX11_allow_2 : decode cX11_allow 2 = .ok (.sipush 254, 3) := by decide +kernel
theorem dX11_allow_5 : decode cX11_allow 5 = .ok (.invokestatic 106, 3) := by decide +kernel
theorem dX11_allow_8 : decode cX11_allow 8 = .ok (.ifCond .eq 9, 3) := by decide +kernel
theorem dX11_allow_11 : decode cX11_allow 11 = .ok (.iload_n 1, 1) := by decide +kernel
theorem dX11_allow_12 : decode cX11_allow 12 = .ok (.iconst 1, 1) := by decide +kernel
theorem dX11_allow_13 : decode cX11_allow 13 = .ok (.iand, 1) := by decide +kernel
theorem dX11_allow_14 : decode cX11_allow 14 = .ok (.ifCond .eq 6, 3) := by decide +kernel
theorem dX11_allow_17 : decode cX11_allow 17 = .ok (.bipush (-2), 2) := by decide +kernel
theorem dX11_allow_19 : decode cX11_allow 19 = .ok (.ireturn, 1) := by decide +kernel
theorem dX11_allow_20 : decode cX11_allow 20 = .ok (.iconst 0, 1) := by decide +kernel
theorem dX11_allow_21 : decode cX11_allow 21 = .ok (.istore_n 2, 1) := by decide +kernel
theorem dX11_allow_22 : decode cX11_allow 22 = .ok (.iload_n 2, 1) := by decide +kernel
theorem dX11_allow_23 : decode cX11_allow 23 = .ok (.aload_n 0, 1) := by decide +kernel
theorem dX11_allow_24 : decode cX11_allow 24 = .ok (.getfield 141, 3) := by decide +kernel
theorem dX11_allow_27 : decode cX11_allow 27 = .ok (.if_icmp .ge 24, 3) := by decide +kernel
theorem dX11_allow_30 : decode cX11_allow 30 = .ok (.aload_n 0, 1) := by decide +kernel
theorem dX11_allow_31 : decode cX11_allow 31 = .ok (.getfield 38, 3) := by decide +kernel
theorem dX11_allow_34 : decode cX11_allow 34 = .ok (.iload_n 2, 1) := by decide +kernel
theorem dX11_allow_35 : decode cX11_allow 35 = .ok (.iaload, 1) := by decide +kernel
theorem dX11_allow_36 : decode cX11_allow 36 = .ok (.iload_n 1, 1) := by decide +kernel
theorem dX11_allow_37 : decode cX11_allow 37 = .ok (.if_icmp .ne 8, 3) := by decide +kernel
theorem dX11_allow_40 : decode cX11_allow 40 = .ok (.aload_n 0, 1) := by decide +kernel
theorem dX11_allow_41 : decode cX11_allow 41 = .ok (.getfield 141, 3) := by decide +kernel
theorem dX11_allow_44 : decode cX11_allow 44 = .ok (.ireturn, 1) := by decide +kernel
theorem dX11_allow_45 : decode cX11_allow 45 = .ok (.iinc 2 1, 3) := by decide +kernel
theorem dX11_allow_48 : decode cX11_allow 48 = .ok (.goto (-26), 3) := by decide +kernel
theorem dX11_allow_51 : decode cX11_allow 51 = .ok (.aload_n 0, 1) := by decide +kernel
theorem dX11_allow_52 : decode cX11_allow 52 = .ok (.getfield 141, 3) := by decide +kernel
theorem dX11_allow_55 : decode cX11_allow 55 = .ok (.bipush 8, 2) := by decide +kernel
theorem dX11_allow_57 : decode cX11_allow 57 = .ok (.if_icmp .ne 6, 3) := by decide +kernel
theorem dX11_allow_60 : decode cX11_allow 60 = .ok (.bipush (-3), 2) := by decide +kernel
theorem dX11_allow_62 : decode cX11_allow 62 = .ok (.ireturn, 1) := by decide +kernel
theorem dX11_allow_63 : decode cX11_allow 63 = .ok (.aload_n 0, 1) := by decide +kernel
theorem dX11_allow_64 : decode cX11_allow 64 = .ok (.getfield 38, 3) := by decide +kernel
theorem dX11_allow_67 : decode cX11_allow 67 = .ok (.aload_n 0, 1) := by decide +kernel
theorem dX11_allow_68 : decode cX11_allow 68 = .ok (.getfield 141, 3) := by decide +kernel
theorem dX11_allow_71 : decode cX11_allow 71 = .ok (.iload_n 1, 1) := by decide +kernel
theorem dX11_allow_72 : decode cX11_allow 72 = .ok (.iastore, 1) := by decide +kernel
theorem dX11_allow_73 : decode cX11_allow 73 = .ok (.aload_n 0, 1) := by decide +kernel
theorem dX11_allow_74 : decode cX11_allow 74 = .ok (.dup, 1) := by decide +kernel
theorem dX11_allow_75 : decode cX11_allow 75 = .ok (.getfield 141, 3) := by decide +kernel
theorem dX11_allow_78 : decode cX11_allow 78 = .ok (.iconst 1, 1) := by decide +kernel
theorem dX11_allow_79 : decode cX11_allow 79 = .ok (.iadd, 1) := by decide +kernel
theorem dX11_allow_80 : decode cX11_allow 80 = .ok (.putfield 141, 3) := by decide +kernel
theorem dX11_allow_83 : decode cX11_allow 83 = .ok (.aload_n 0, 1) := by decide +kernel
theorem dX11_allow_84 : decode cX11_allow 84 = .ok (.getfield 141, 3) := by decide +kernel
theorem dX11_allow_87 : decode cX11_allow 87 = .ok (.ireturn, 1) := by decide +kernel
theorem dX11_see_0 : decode cX11_see 0 = .ok (.iconst 0, 1) := by decide +kernel
theorem dX11_see_1 : decode cX11_see 1 = .ok (.istore_n 3, 1) := by decide +kernel
theorem dX11_see_2 : decode cX11_see 2 = .ok (.iconst 0, 1) := by decide +kernel
theorem dX11_see_3 : decode cX11_see 3 = .ok (.istore 4, 2) := by decide +kernel
theorem dX11_see_5 : decode cX11_see 5 = .ok (.iconst 0, 1) := by decide +kernel
theorem dX11_see_6 : decode cX11_see 6 = .ok (.istore 5, 2) := by decide +kernel
theorem dX11_see_8 : decode cX11_see 8 = .ok (.iconst 0, 1) := by decide +kernel
theorem dX11_see_9 : decode cX11_see 9 = .ok (.istore 6, 2) := by decide +kernel
theorem dX11_see_11 : decode cX11_see 11 = .ok (.iload 6, 2) := by decide +kernel
theorem dX11_see_13 : decode cX11_see 13 = .ok (.aload_n 0, 1) := by decide +kernel
theorem dX11_see_14 : decode cX11_see 14 = .ok (.getfield 44, 3) := by decide +kernel
theorem dX11_see_17 : decode cX11_see 17 = .ok (.iload_n 1, 1) := by decide +kernel
theorem dX11_see_18 : decode cX11_see 18 = .ok (.iaload, 1) := by decide +kernel
theorem dX11_see_19 : decode cX11_see 19 = .ok (.if_icmp .ge 82, 3) := by decide +kernel
theorem dX11_see_22 : decode cX11_see 22 = .ok (.aload_n 0, 1) := by decide +kernel
theorem dX11_see_23 : decode cX11_see 23 = .ok (.getfield 41, 3) := by decide +kernel
theorem dX11_see_26 : decode cX11_see 26 = .ok (.bipush 40, 2) := by decide +kernel
theorem dX11_see_28 : decode cX11_see 28 = .ok (.iload_n 1, 1) := by decide +kernel
theorem dX11_see_29 : decode cX11_see 29 = .ok (.imul, 1) := by decide +kernel
theorem dX11_see_30 : decode cX11_see 30 = .ok (.iload 6, 2) := by decide +kernel
theorem dX11_see_32 : decode cX11_see 32 = .ok (.iadd, 1) := by decide +kernel
theorem dX11_see_33 : decode cX11_see 33 = .ok (.baload, 1) := by decide +kernel
theorem dX11_see_34 : decode cX11_see 34 = .ok (.istore 7, 2) := by decide +kernel
theorem dX11_see_36 : decode cX11_see 36 = .ok (.aload_n 0, 1) := by decide +kernel
theorem dX11_see_37 : decode cX11_see 37 = .ok (.getfield 13, 3) := by decide +kernel
theorem dX11_see_40 : decode cX11_see 40 = .ok (.iload 7, 2) := by decide +kernel
theorem dX11_see_42 : decode cX11_see 42 = .ok (.iaload, 1) := by decide +kernel
theorem dX11_see_43 : decode cX11_see 43 = .ok (.iconst 2, 1) := by decide +kernel
theorem dX11_see_44 : decode cX11_see 44 = .ok (.if_icmp .ne 33, 3) := by decide +kernel
theorem dX11_see_47 : decode cX11_see 47 = .ok (.iload 5, 2) := by decide +kernel
theorem dX11_see_49 : decode cX11_see 49 = .ok (.ifCond .eq 10, 3) := by decide +kernel
theorem dX11_see_52 : decode cX11_see 52 = .ok (.aload_n 2, 1) := by decide +kernel
theorem dX11_see_53 : decode cX11_see 53 = .ok (.iload 4, 2) := by decide +kernel
theorem dX11_see_55 : decode cX11_see 55 = .ok (.iload_n 3, 1) := by decide +kernel
theorem dX11_see_56 : decode cX11_see 56 = .ok (.invokestatic 144, 3) := by decide +kernel
theorem dX11_see_59 : decode cX11_see 59 = .ok (.iload 5, 2) := by decide +kernel
theorem dX11_see_61 : decode cX11_see 61 = .ok (.ifCond .ne 7, 3) := by decide +kernel
theorem dX11_see_64 : decode cX11_see 64 = .ok (.iconst 1, 1) := by decide +kernel
theorem dX11_see_65 : decode cX11_see 65 = .ok (.goto 4, 3) := by decide +kernel
theorem dX11_see_68 : decode cX11_see 68 = .ok (.iconst 0, 1) := by decide +kernel
theorem dX11_see_69 : decode cX11_see 69 = .ok (.istore 5, 2) := by decide +kernel
theorem dX11_see_71 : decode cX11_see 71 = .ok (.iload_n 3, 1) := by decide +kernel
theorem dX11_see_72 : decode cX11_see 72 = .ok (.istore 4, 2) := by decide +kernel
theorem dX11_see_74 : decode cX11_see 74 = .ok (.goto 21, 3) := by decide +kernel
theorem dX11_see_77 : decode cX11_see 77 = .ok (.aload_n 0, 1) := by decide +kernel
theorem dX11_see_78 : decode cX11_see 78 = .ok (.getfield 13, 3) := by decide +kernel
theorem dX11_see_81 : decode cX11_see 81 = .ok (.iload 7, 2) := by decide +kernel
theorem dX11_see_83 : decode cX11_see 83 = .ok (.iaload, 1) := by decide +kernel
theorem dX11_see_84 : decode cX11_see 84 = .ok (.ifCond .ne 11, 3) := by decide +kernel
theorem dX11_see_87 : decode cX11_see 87 = .ok (.aload_n 2, 1) := by decide +kernel
theorem dX11_see_88 : decode cX11_see 88 = .ok (.iload_n 3, 1) := by decide +kernel
theorem dX11_see_89 : decode cX11_see 89 = .ok (.iload 7, 2) := by decide +kernel
theorem dX11_see_91 : decode cX11_see 91 = .ok (.iastore, 1) := by decide +kernel
theorem dX11_see_92 : decode cX11_see 92 = .ok (.iinc 3 1, 3) := by decide +kernel
theorem dX11_see_95 : decode cX11_see 95 = .ok (.iinc 6 1, 3) := by decide +kernel
theorem dX11_see_98 : decode cX11_see 98 = .ok (.goto (-87), 3) := by decide +kernel
theorem dX11_see_101 : decode cX11_see 101 = .ok (.iload 5, 2) := by decide +kernel
theorem dX11_see_103 : decode cX11_see 103 = .ok (.ifCond .eq 10, 3) := by decide +kernel
theorem dX11_see_106 : decode cX11_see 106 = .ok (.aload_n 2, 1) := by decide +kernel
theorem dX11_see_107 : decode cX11_see 107 = .ok (.iload 4, 2) := by decide +kernel
theorem dX11_see_109 : decode cX11_see 109 = .ok (.iload_n 3, 1) := by decide +kernel
theorem dX11_see_110 : decode cX11_see 110 = .ok (.invokestatic 144, 3) := by decide +kernel
theorem dX11_see_113 : decode cX11_see 113 = .ok (.iload_n 3, 1) := by decide +kernel
theorem dX11_see_114 : decode cX11_see 114 = .ok (.ireturn, 1) := by decide +kernel
theorem dX11_turn_0 : decode cX11_turn 0 = .ok (.iload_n 1, 1) := by decide +kernel
theorem dX11_turn_1 : decode cX11_turn 1 = .ok (.istore_n 3, 1) := by decide +kernel
theorem dX11_turn_2 : decode cX11_turn 2 = .ok (.iload_n 2, 1) := by decide +kernel
theorem dX11_turn_3 : decode cX11_turn 3 = .ok (.iconst 1, 1) := by decide +kernel
theorem dX11_turn_4 : decode cX11_turn 4 = .ok (.isub, 1) := by decide +kernel
theorem dX11_turn_5 : decode cX11_turn 5 = .ok (.istore 4, 2) := by decide +kernel
theorem dX11_turn_7 : decode cX11_turn 7 = .ok (.iload_n 3, 1) := by decide +kernel
theorem dX11_turn_8 : decode cX11_turn 8 = .ok (.iload 4, 2) := by decide +kernel
theorem dX11_turn_10 : decode cX11_turn 10 = .ok (.if_icmp .ge 30, 3) := by decide +kernel
theorem dX11_turn_13 : decode cX11_turn 13 = .ok (.aload_n 0, 1) := by decide +kernel
theorem dX11_turn_14 : decode cX11_turn 14 = .ok (.iload_n 3, 1) := by decide +kernel
theorem dX11_turn_15 : decode cX11_turn 15 = .ok (.iaload, 1) := by decide +kernel
theorem dX11_turn_16 : decode cX11_turn 16 = .ok (.istore 5, 2) := by decide +kernel
theorem dX11_turn_18 : decode cX11_turn 18 = .ok (.aload_n 0, 1) := by decide +kernel
theorem dX11_turn_19 : decode cX11_turn 19 = .ok (.iload_n 3, 1) := by decide +kernel
theorem dX11_turn_20 : decode cX11_turn 20 = .ok (.aload_n 0, 1) := by decide +kernel
theorem dX11_turn_21 : decode cX11_turn 21 = .ok (.iload 4, 2) := by decide +kernel
theorem dX11_turn_23 : decode cX11_turn 23 = .ok (.iaload, 1) := by decide +kernel
theorem dX11_turn_24 : decode cX11_turn 24 = .ok (.iastore, 1) := by decide +kernel
theorem dX11_turn_25 : decode cX11_turn 25 = .ok (.aload_n 0, 1) := by decide +kernel
theorem dX11_turn_26 : decode cX11_turn 26 = .ok (.iload 4, 2) := by decide +kernel
theorem dX11_turn_28 : decode cX11_turn 28 = .ok (.iload 5, 2) := by decide +kernel
theorem dX11_turn_30 : decode cX11_turn 30 = .ok (.iastore, 1) := by decide +kernel
theorem dX11_turn_31 : decode cX11_turn 31 = .ok (.iinc 3 1, 3) := by decide +kernel
theorem dX11_turn_34 : decode cX11_turn 34 = .ok (.iinc 4 (-1), 3) := by decide +kernel
theorem dX11_turn_37 : decode cX11_turn 37 = .ok (.goto (-30), 3) := by decide +kernel
theorem dX11_turn_40 : decode cX11_turn 40 = .ok (.return_, 1) := by decide +kernel
theorem dX11_wrong_0 : decode cX11_wrong 0 = .ok (.aload_n 0, 1) := by decide +kernel
theorem dX11_wrong_1 : decode cX11_wrong 1 = .ok (.iload_n 1, 1) := by decide +kernel
theorem dX11_wrong_2 : decode cX11_wrong 2 = .ok (.putfield 148, 3) := by decide +kernel
theorem dX11_wrong_5 : decode cX11_wrong 5 = .ok (.aload_n 0, 1) := by decide +kernel
theorem dX11_wrong_6 : decode cX11_wrong 6 = .ok (.iload_n 2, 1) := by decide +kernel
theorem dX11_wrong_7 : decode cX11_wrong 7 = .ok (.putfield 47, 3) := by decide +kernel
theorem dX11_wrong_10 : decode cX11_wrong 10 = .ok (.iconst 0, 1) := by decide +kernel
theorem dX11_wrong_11 : decode cX11_wrong 11 = .ok (.ireturn, 1) := by decide +kernel
theorem dX11_readName_0 : decode cX11_readName 0 = .ok (.iconst 0, 1) := by decide +kernel
theorem dX11_readName_1 : decode cX11_readName 1 = .ok (.istore_n 2, 1) := by decide +kernel
theorem dX11_readName_2 : decode cX11_readName 2 = .ok (.iload_n 2, 1) := by decide +kernel
theorem dX11_readName_3 : decode cX11_readName 3 = .ok (.iload_n 1, 1) := by decide +kernel
theorem dX11_readName_4 : decode cX11_readName 4 = .ok (.if_icmp .ge 41, 3) := by decide +kernel
theorem dX11_readName_7 : decode cX11_readName 7 = .ok (.aload_n 0, 1) := by decide +kernel
theorem dX11_readName_8 : decode cX11_readName 8 = .ok (.getfield 16, 3) := by decide +kernel
theorem dX11_readName_11 : decode cX11_readName 11 = .ok (.iload_n 2, 1) := by decide +kernel
theorem dX11_readName_12 : decode cX11_readName 12 = .ok (.baload, 1) := by decide +kernel
theorem dX11_readName_13 : decode cX11_readName 13 = .ok (.invokestatic 113, 3) := by decide +kernel
theorem dX11_readName_16 : decode cX11_readName 16 = .ok (.ifCond .ne 10, 3) := by decide +kernel
theorem dX11_readName_19 : decode cX11_readName 19 = .ok (.aload_n 0, 1) := by decide +kernel
theorem dX11_readName_20 : decode cX11_readName 20 = .ok (.iconst 1, 1) := by decide +kernel
theorem dX11_readName_21 : decode cX11_readName 21 = .ok (.iload_n 2, 1) := by decide +kernel
theorem dX11_readName_22 : decode cX11_readName 22 = .ok (.invokevirtual 151, 3) := by decide +kernel
theorem dX11_readName_25 : decode cX11_readName 25 = .ok (.ireturn, 1) := by decide +kernel
theorem dX11_readName_26 : decode cX11_readName 26 = .ok (.iload_n 2, 1) := by decide +kernel
theorem dX11_readName_27 : decode cX11_readName 27 = .ok (.bipush 40, 2) := by decide +kernel
theorem dX11_readName_29 : decode cX11_readName 29 = .ok (.if_icmp .ne 10, 3) := by decide +kernel
theorem dX11_readName_32 : decode cX11_readName 32 = .ok (.aload_n 0, 1) := by decide +kernel
theorem dX11_readName_33 : decode cX11_readName 33 = .ok (.iconst 2, 1) := by decide +kernel
theorem dX11_readName_34 : decode cX11_readName 34 = .ok (.iload_n 2, 1) := by decide +kernel
theorem dX11_readName_35 : decode cX11_readName 35 = .ok (.invokevirtual 151, 3) := by decide +kernel
theorem dX11_readName_38 : decode cX11_readName 38 = .ok (.ireturn, 1) := by decide +kernel
theorem dX11_readName_39 : decode cX11_readName 39 = .ok (.iinc 2 1, 3) := by decide +kernel
theorem dX11_readName_42 : decode cX11_readName 42 = .ok (.goto (-40), 3) := by decide +kernel
theorem dX11_readName_45 : decode cX11_readName 45 = .ok (.iconst 0, 1) := by decide +kernel
theorem dX11_readName_46 : decode cX11_readName 46 = .ok (.istore_n 2, 1) := by decide +kernel
theorem dX11_readName_47 : decode cX11_readName 47 = .ok (.iconst 0, 1) := by decide +kernel
theorem dX11_readName_48 : decode cX11_readName 48 = .ok (.istore_n 3, 1) := by decide +kernel
theorem dX11_readName_49 : decode cX11_readName 49 = .ok (.iload_n 3, 1) := by decide +kernel
theorem dX11_readName_50 : decode cX11_readName 50 = .ok (.iload_n 1, 1) := by decide +kernel
theorem dX11_readName_51 : decode cX11_readName 51 = .ok (.if_icmp .ge 31, 3) := by decide +kernel
theorem dX11_readName_54 : decode cX11_readName 54 = .ok (.iload_n 2, 1) := by decide +kernel
theorem dX11_readName_55 : decode cX11_readName 55 = .ok (.aload_n 0, 1) := by decide +kernel
theorem dX11_readName_56 : decode cX11_readName 56 = .ok (.getfield 13, 3) := by decide +kernel
theorem dX11_readName_59 : decode cX11_readName 59 = .ok (.aload_n 0, 1) := by decide +kernel
theorem dX11_readName_60 : decode cX11_readName 60 = .ok (.getfield 16, 3) := by decide +kernel
theorem dX11_readName_63 : decode cX11_readName 63 = .ok (.iload_n 3, 1) := by decide +kernel
theorem dX11_readName_64 : decode cX11_readName 64 = .ok (.baload, 1) := by decide +kernel
theorem dX11_readName_65 : decode cX11_readName 65 = .ok (.iaload, 1) := by decide +kernel
theorem dX11_readName_66 : decode cX11_readName 66 = .ok (.ifCond .ne 7, 3) := by decide +kernel
theorem dX11_readName_69 : decode cX11_readName 69 = .ok (.iconst 1, 1) := by decide +kernel
theorem dX11_readName_70 : decode cX11_readName 70 = .ok (.goto 4, 3) := by decide +kernel
theorem dX11_readName_73 : decode cX11_readName 73 = .ok (.iconst 0, 1) := by decide +kernel
theorem dX11_readName_74 : decode cX11_readName 74 = .ok (.iadd, 1) := by decide +kernel
theorem dX11_readName_75 : decode cX11_readName 75 = .ok (.istore_n 2, 1) := by decide +kernel
theorem dX11_readName_76 : decode cX11_readName 76 = .ok (.iinc 3 1, 3) := by decide +kernel
theorem dX11_readName_79 : decode cX11_readName 79 = .ok (.goto (-30), 3) := by decide +kernel
theorem dX11_readName_82 : decode cX11_readName 82 = .ok (.iload_n 2, 1) := by decide +kernel
theorem dX11_readName_83 : decode cX11_readName 83 = .ok (.ifCond .ne 10, 3) := by decide +kernel
theorem dX11_readName_86 : decode cX11_readName 86 = .ok (.aload_n 0, 1) := by decide +kernel
theorem dX11_readName_87 : decode cX11_readName 87 = .ok (.iconst 3, 1) := by decide +kernel
theorem dX11_readName_88 : decode cX11_readName 88 = .ok (.iload_n 1, 1) := by decide +kernel
theorem dX11_readName_89 : decode cX11_readName 89 = .ok (.invokevirtual 151, 3) := by decide +kernel
theorem dX11_readName_92 : decode cX11_readName 92 = .ok (.ireturn, 1) := by decide +kernel
theorem dX11_readName_93 : decode cX11_readName 93 = .ok (.iload_n 2, 1) := by decide +kernel
theorem dX11_readName_94 : decode cX11_readName 94 = .ok (.bipush 24, 2) := by decide +kernel
theorem dX11_readName_96 : decode cX11_readName 96 = .ok (.if_icmp .le 12, 3) := by decide +kernel
theorem dX11_readName_99 : decode cX11_readName 99 = .ok (.aload_n 0, 1) := by decide +kernel
theorem dX11_readName_100 : decode cX11_readName 100 = .ok (.iconst 4, 1) := by decide +kernel
theorem dX11_readName_101 : decode cX11_readName 101 = .ok (.iload_n 1, 1) := by decide +kernel
theorem dX11_readName_102 : decode cX11_readName 102 = .ok (.invokevirtual 151, 3) := by decide +kernel
theorem dX11_readName_105 : decode cX11_readName 105 = .ok (.ifCond .eq 7, 3) := by decide +kernel
theorem dX11_readName_108 : decode cX11_readName 108 = .ok (.iconst 1, 1) := by decide +kernel
theorem dX11_readName_109 : decode cX11_readName 109 = .ok (.goto 4, 3) := by decide +kernel
theorem dX11_readName_112 : decode cX11_readName 112 = .ok (.iconst 0, 1) := by decide +kernel
theorem dX11_readName_113 : decode cX11_readName 113 = .ok (.ireturn, 1) := by decide +kernel
theorem dX11_name_0 : decode cX11_name 0 = .ok (.aload_n 0, 1) := by decide +kernel
theorem dX11_name_1 : decode cX11_name 1 = .ok (.getfield 110, 3) := by decide +kernel
theorem dX11_name_4 : decode cX11_name 4 = .ok (.istore_n 1, 1) := by decide +kernel
theorem dX11_name_5 : decode cX11_name 5 = .ok (.aload_n 0, 1) := by decide +kernel
theorem dX11_name_6 : decode cX11_name 6 = .ok (.iconst 0, 1) := by decide +kernel
theorem dX11_name_7 : decode cX11_name 7 = .ok (.putfield 110, 3) := by decide +kernel
theorem dX11_name_10 : decode cX11_name 10 = .ok (.aload_n 0, 1) := by decide +kernel
theorem dX11_name_11 : decode cX11_name 11 = .ok (.iconst 0, 1) := by decide +kernel
theorem dX11_name_12 : decode cX11_name 12 = .ok (.putfield 148, 3) := by decide +kernel
theorem dX11_name_15 : decode cX11_name 15 = .ok (.aload_n 0, 1) := by decide +kernel
theorem dX11_name_16 : decode cX11_name 16 = .ok (.iconst (-1), 1) := by decide +kernel
theorem dX11_name_17 : decode cX11_name 17 = .ok (.putfield 47, 3) := by decide +kernel
theorem dX11_name_20 : decode cX11_name 20 = .ok (.aload_n 0, 1) := by decide +kernel
theorem dX11_name_21 : decode cX11_name 21 = .ok (.iload_n 1, 1) := by decide +kernel
theorem dX11_name_22 : decode cX11_name 22 = .ok (.invokevirtual 155, 3) := by decide +kernel
theorem dX11_name_25 : decode cX11_name 25 = .ok (.ifCond .ne 5, 3) := by decide +kernel
theorem dX11_name_28 : decode cX11_name 28 = .ok (.iconst (-1), 1) := by decide +kernel
theorem dX11_name_29 : decode cX11_name 29 = .ok (.ireturn, 1) := by decide +kernel
theorem dX11_name_30 : decode cX11_name 30 = .ok (.iconst 0, 1) := by decide +kernel
theorem dX11_name_31 : decode cX11_name 31 = .ok (.istore_n 2, 1) := by decide +kernel
theorem dX11_name_32 : decode cX11_name 32 = .ok (.iload_n 2, 1) := by decide +kernel
theorem dX11_name_33 : decode cX11_name 33 = .ok (.iload_n 1, 1) := by decide +kernel
theorem dX11_name_34 : decode cX11_name 34 = .ok (.if_icmp .ge 25, 3) := by decide +kernel
theorem dX11_name_37 : decode cX11_name 37 = .ok (.aload_n 0, 1) := by decide +kernel
theorem dX11_name_38 : decode cX11_name 38 = .ok (.getfield 41, 3) := by decide +kernel
theorem dX11_name_41 : decode cX11_name 41 = .ok (.sipush 8000, 3) := by decide +kernel
theorem dX11_name_44 : decode cX11_name 44 = .ok (.iload_n 2, 1) := by decide +kernel
theorem dX11_name_45 : decode cX11_name 45 = .ok (.iadd, 1) := by decide +kernel
theorem dX11_name_46 : decode cX11_name 46 = .ok (.aload_n 0, 1) := by decide +kernel
theorem dX11_name_47 : decode cX11_name 47 = .ok (.getfield 16, 3) := by decide +kernel
theorem dX11_name_50 : decode cX11_name 50 = .ok (.iload_n 2, 1) := by decide +kernel
theorem dX11_name_51 : decode cX11_name 51 = .ok (.baload, 1) := by decide +kernel
theorem dX11_name_52 : decode cX11_name 52 = .ok (.bastore, 1) := by decide +kernel
theorem dX11_name_53 : decode cX11_name 53 = .ok (.iinc 2 1, 3) := by decide +kernel
theorem dX11_name_56 : decode cX11_name 56 = .ok (.goto (-24), 3) := by decide +kernel
theorem dX11_name_59 : decode cX11_name 59 = .ok (.aload_n 0, 1) := by decide +kernel
theorem dX11_name_60 : decode cX11_name 60 = .ok (.getfield 44, 3) := by decide +kernel
theorem dX11_name_63 : decode cX11_name 63 = .ok (.sipush 200, 3) := by decide +kernel
theorem dX11_name_66 : decode cX11_name 66 = .ok (.iload_n 1, 1) := by decide +kernel
theorem dX11_name_67 : decode cX11_name 67 = .ok (.iastore, 1) := by decide +kernel
theorem dX11_name_68 : decode cX11_name 68 = .ok (.aload_n 0, 1) := by decide +kernel
theorem dX11_name_69 : decode cX11_name 69 = .ok (.iconst 1, 1) := by decide +kernel
theorem dX11_name_70 : decode cX11_name 70 = .ok (.putfield 158, 3) := by decide +kernel
theorem dX11_name_73 : decode cX11_name 73 = .ok (.aload_n 0, 1) := by decide +kernel
theorem dX11_name_74 : decode cX11_name 74 = .ok (.sipush 200, 3) := by decide +kernel
theorem dX11_name_77 : decode cX11_name 77 = .ok (.aload_n 0, 1) := by decide +kernel
theorem dX11_name_78 : decode cX11_name 78 = .ok (.getfield 51, 3) := by decide +kernel
theorem dX11_name_81 : decode cX11_name 81 = .ok (.invokevirtual 162, 3) := by decide +kernel
theorem dX11_name_84 : decode cX11_name 84 = .ok (.ireturn, 1) := by decide +kernel
theorem dX11_fault_0 : decode cX11_fault 0 = .ok (.iload_n 1, 1) := by decide +kernel
theorem dX11_fault_1 : decode cX11_fault 1 = .ok (.ifCond .ne 10, 3) := by decide +kernel
theorem dX11_fault_4 : decode cX11_fault 4 = .ok (.aload_n 0, 1) := by decide +kernel
theorem dX11_fault_5 : decode cX11_fault 5 = .ok (.getfield 148, 3) := by decide +kernel
theorem dX11_fault_8 : decode cX11_fault 8 = .ok (.goto 16, 3) := by decide +kernel
theorem dX11_fault_11 : decode cX11_fault 11 = .ok (.iload_n 1, 1) := by decide +kernel
theorem dX11_fault_12 : decode cX11_fault 12 = .ok (.iconst 1, 1) := by decide +kernel
theorem dX11_fault_13 : decode cX11_fault 13 = .ok (.if_icmp .ne 10, 3) := by decide +kernel
theorem dX11_fault_16 : decode cX11_fault 16 = .ok (.aload_n 0, 1) := by decide +kernel
theorem dX11_fault_17 : decode cX11_fault 17 = .ok (.getfield 47, 3) := by decide +kernel
theorem dX11_fault_20 : decode cX11_fault 20 = .ok (.goto 4, 3) := by decide +kernel
theorem dX11_fault_23 : decode cX11_fault 23 = .ok (.iconst (-1), 1) := by decide +kernel
theorem dX11_fault_24 : decode cX11_fault 24 = .ok (.ireturn, 1) := by decide +kernel
theorem dX11_scripts_0 : decode cX11_scripts 0 = .ok (.iconst 0, 1) := by decide +kernel
theorem dX11_scripts_1 : decode cX11_scripts 1 = .ok (.istore_n 1, 1) := by decide +kernel
theorem dX11_scripts_2 : decode cX11_scripts 2 = .ok (.aload_n 0, 1) := by decide +kernel
theorem dX11_scripts_3 : decode cX11_scripts 3 = .ok (.sipush 200, 3) := by decide +kernel
theorem dX11_scripts_6 : decode cX11_scripts 6 = .ok (.aload_n 0, 1) := by decide +kernel
theorem dX11_scripts_7 : decode cX11_scripts 7 = .ok (.getfield 51, 3) := by decide +kernel
theorem dX11_scripts_10 : decode cX11_scripts 10 = .ok (.invokevirtual 162, 3) := by decide +kernel
theorem dX11_scripts_13 : decode cX11_scripts 13 = .ok (.istore_n 2, 1) := by decide +kernel
theorem dX11_scripts_14 : decode cX11_scripts 14 = .ok (.iconst 0, 1) := by decide +kernel
theorem dX11_scripts_15 : decode cX11_scripts 15 = .ok (.istore_n 3, 1) := by decide +kernel
theorem dX11_scripts_16 : decode cX11_scripts 16 = .ok (.iload_n 3, 1) := by decide +kernel
theorem dX11_scripts_17 : decode cX11_scripts 17 = .ok (.iload_n 2, 1) := by decide +kernel
theorem dX11_scripts_18 : decode cX11_scripts 18 = .ok (.if_icmp .ge 25, 3) := by decide +kernel
theorem dX11_scripts_21 : decode cX11_scripts 21 = .ok (.iload_n 1, 1) := by decide +kernel
theorem dX11_scripts_22 : decode cX11_scripts 22 = .ok (.iconst 1, 1) := by decide +kernel
theorem dX11_scripts_23 : decode cX11_scripts 23 = .ok (.aload_n 0, 1) := by decide +kernel
theorem dX11_scripts_24 : decode cX11_scripts 24 = .ok (.getfield 7, 3) := by decide +kernel
theorem dX11_scripts_27 : decode cX11_scripts 27 = .ok (.aload_n 0, 1) := by decide +kernel
theorem dX11_scripts_28 : decode cX11_scripts 28 = .ok (.getfield 51, 3) := by decide +kernel
theorem dX11_scripts_31 : decode cX11_scripts 31 = .ok (.iload_n 3, 1) := by decide +kernel
theorem dX11_scripts_32 : decode cX11_scripts 32 = .ok (.iaload, 1) := by decide +kernel
theorem dX11_scripts_33 : decode cX11_scripts 33 = .ok (.iaload, 1) := by decide +kernel
theorem dX11_scripts_34 : decode cX11_scripts 34 = .ok (.ishl, 1) := by decide +kernel
theorem dX11_scripts_35 : decode cX11_scripts 35 = .ok (.ior, 1) := by decide +kernel
theorem dX11_scripts_36 : decode cX11_scripts 36 = .ok (.istore_n 1, 1) := by decide +kernel
theorem dX11_scripts_37 : decode cX11_scripts 37 = .ok (.iinc 3 1, 3) := by decide +kernel
theorem dX11_scripts_40 : decode cX11_scripts 40 = .ok (.goto (-24), 3) := by decide +kernel
theorem dX11_scripts_43 : decode cX11_scripts 43 = .ok (.iload_n 1, 1) := by decide +kernel
theorem dX11_scripts_44 : decode cX11_scripts 44 = .ok (.sipush 254, 3) := by decide +kernel
theorem dX11_scripts_47 : decode cX11_scripts 47 = .ok (.iand, 1) := by decide +kernel
theorem dX11_scripts_48 : decode cX11_scripts 48 = .ok (.ireturn, 1) := by decide +kernel
theorem dX11_isMixed_0 : decode cX11_isMixed 0 = .ok (.aload_n 0, 1) := by decide +kernel
theorem dX11_isMixed_1 : decode cX11_isMixed 1 = .ok (.invokevirtual 166, 3) := by decide +kernel
theorem dX11_isMixed_4 : decode cX11_isMixed 4 = .ok (.istore_n 1, 1) := by decide +kernel
theorem dX11_isMixed_5 : decode cX11_isMixed 5 = .ok (.iload_n 1, 1) := by decide +kernel
theorem dX11_isMixed_6 : decode cX11_isMixed 6 = .ok (.iload_n 1, 1) := by decide +kernel
theorem dX11_isMixed_7 : decode cX11_isMixed 7 = .ok (.iconst 1, 1) := by decide +kernel
theorem dX11_isMixed_8 : decode cX11_isMixed 8 = .ok (.isub, 1) := by decide +kernel
theorem dX11_isMixed_9 : decode cX11_isMixed 9 = .ok (.iand, 1) := by decide +kernel
theorem dX11_isMixed_10 : decode cX11_isMixed 10 = .ok (.ifCond .ne 5, 3) := by decide +kernel
theorem dX11_isMixed_13 : decode cX11_isMixed 13 = .ok (.iconst 0, 1) := by decide +kernel
theorem dX11_isMixed_14 : decode cX11_isMixed 14 = .ok (.ireturn, 1) := by decide +kernel
theorem dX11_isMixed_15 : decode cX11_isMixed 15 = .ok (.iconst 0, 1) := by decide +kernel
theorem dX11_isMixed_16 : decode cX11_isMixed 16 = .ok (.istore_n 2, 1) := by decide +kernel
theorem dX11_isMixed_17 : decode cX11_isMixed 17 = .ok (.iload_n 2, 1) := by decide +kernel
theorem dX11_isMixed_18 : decode cX11_isMixed 18 = .ok (.aload_n 0, 1) := by decide +kernel
theorem dX11_isMixed_19 : decode cX11_isMixed 19 = .ok (.getfield 141, 3) := by decide +kernel
theorem dX11_isMixed_22 : decode cX11_isMixed 22 = .ok (.if_icmp .ge 24, 3) := by decide +kernel
theorem dX11_isMixed_25 : decode cX11_isMixed 25 = .ok (.iload_n 1, 1) := by decide +kernel
theorem dX11_isMixed_26 : decode cX11_isMixed 26 = .ok (.aload_n 0, 1) := by decide +kernel
theorem dX11_isMixed_27 : decode cX11_isMixed 27 = .ok (.getfield 38, 3) := by decide +kernel
theorem dX11_isMixed_30 : decode cX11_isMixed 30 = .ok (.iload_n 2, 1) := by decide +kernel
theorem dX11_isMixed_31 : decode cX11_isMixed 31 = .ok (.iaload, 1) := by decide +kernel
theorem dX11_isMixed_32 : decode cX11_isMixed 32 = .ok (.iconst (-1), 1) := by decide +kernel
theorem dX11_isMixed_33 : decode cX11_isMixed 33 = .ok (.ixor, 1) := by decide +kernel
theorem dX11_isMixed_34 : decode cX11_isMixed 34 = .ok (.iand, 1) := by decide +kernel
theorem dX11_isMixed_35 : decode cX11_isMixed 35 = .ok (.ifCond .ne 5, 3) := by decide +kernel
theorem dX11_isMixed_38 : decode cX11_isMixed 38 = .ok (.iconst 0, 1) := by decide +kernel
theorem dX11_isMixed_39 : decode cX11_isMixed 39 = .ok (.ireturn, 1) := by decide +kernel
theorem dX11_isMixed_40 : decode cX11_isMixed 40 = .ok (.iinc 2 1, 3) := by decide +kernel
theorem dX11_isMixed_43 : decode cX11_isMixed 43 = .ok (.goto (-26), 3) := by decide +kernel
theorem dX11_isMixed_46 : decode cX11_isMixed 46 = .ok (.iconst 1, 1) := by decide +kernel
theorem dX11_isMixed_47 : decode cX11_isMixed 47 = .ok (.ireturn, 1) := by decide +kernel
theorem dX11_has_0 : decode cX11_has 0 = .ok (.iconst 0, 1) := by decide +kernel
theorem dX11_has_1 : decode cX11_has 1 = .ok (.istore_n 2, 1) := by decide +kernel
theorem dX11_has_2 : decode cX11_has 2 = .ok (.iload_n 2, 1) := by decide +kernel
theorem dX11_has_3 : decode cX11_has 3 = .ok (.aload_n 0, 1) := by decide +kernel
theorem dX11_has_4 : decode cX11_has 4 = .ok (.getfield 44, 3) := by decide +kernel
theorem dX11_has_7 : decode cX11_has 7 = .ok (.sipush 200, 3) := by decide +kernel
theorem dX11_has_10 : decode cX11_has 10 = .ok (.iaload, 1) := by decide +kernel
theorem dX11_has_11 : decode cX11_has 11 = .ok (.if_icmp .ge 30, 3) := by decide +kernel
theorem dX11_has_14 : decode cX11_has 14 = .ok (.aload_n 0, 1) := by decide +kernel
theorem dX11_has_15 : decode cX11_has 15 = .ok (.getfield 13, 3) := by decide +kernel
theorem dX11_has_18 : decode cX11_has 18 = .ok (.aload_n 0, 1) := by decide +kernel
theorem dX11_has_19 : decode cX11_has 19 = .ok (.getfield 41, 3) := by decide +kernel
theorem dX11_has_22 : decode cX11_has 22 = .ok (.sipush 8000, 3) := by decide +kernel
theorem dX11_has_25 : decode cX11_has 25 = .ok (.iload_n 2, 1) := by decide +kernel
theorem dX11_has_26 : decode cX11_has 26 = .ok (.iadd, 1) := by decide +kernel
theorem dX11_has_27 : decode cX11_has 27 = .ok (.baload, 1) := by decide +kernel
theorem dX11_has_28 : decode cX11_has 28 = .ok (.iaload, 1) := by decide +kernel
theorem dX11_has_29 : decode cX11_has 29 = .ok (.iload_n 1, 1) := by decide +kernel
theorem dX11_has_30 : decode cX11_has 30 = .ok (.if_icmp .ne 5, 3) := by decide +kernel
theorem dX11_has_33 : decode cX11_has 33 = .ok (.iconst 1, 1) := by decide +kernel
theorem dX11_has_34 : decode cX11_has 34 = .ok (.ireturn, 1) := by decide +kernel
theorem dX11_has_35 : decode cX11_has 35 = .ok (.iinc 2 1, 3) := by decide +kernel
theorem dX11_has_38 : decode cX11_has 38 = .ok (.goto (-36), 3) := by decide +kernel
theorem dX11_has_41 : decode cX11_has 41 = .ok (.iconst 0, 1) := by decide +kernel
theorem dX11_has_42 : decode cX11_has 42 = .ok (.ireturn, 1) := by decide +kernel
theorem dX11_about_0 : decode cX11_about 0 = .ok (.aload_n 0, 1) := by decide +kernel
theorem dX11_about_1 : decode cX11_about 1 = .ok (.getfield 158, 3) := by decide +kernel
theorem dX11_about_4 : decode cX11_about 4 = .ok (.ifCond .ne 5, 3) := by decide +kernel
theorem dX11_about_7 : decode cX11_about 7 = .ok (.iconst (-1), 1) := by decide +kernel
theorem dX11_about_8 : decode cX11_about 8 = .ok (.ireturn, 1) := by decide +kernel
theorem dX11_about_9 : decode cX11_about 9 = .ok (.aload_n 0, 1) := by decide +kernel
theorem dX11_about_10 : decode cX11_about 10 = .ok (.sipush 200, 3) := by decide +kernel
theorem dX11_about_13 : decode cX11_about 13 = .ok (.aload_n 0, 1) := by decide +kernel
theorem dX11_about_14 : decode cX11_about 14 = .ok (.getfield 51, 3) := by decide +kernel
theorem dX11_about_17 : decode cX11_about 17 = .ok (.invokevirtual 162, 3) := by decide +kernel
theorem dX11_about_20 : decode cX11_about 20 = .ok (.istore_n 2, 1) := by decide +kernel
theorem dX11_about_21 : decode cX11_about 21 = .ok (.iload_n 1, 1) := by decide +kernel
theorem dX11_about_22 : decode cX11_about 22 = .ok (.tableswitch 150 0 6 #[42, 51, 53, 58, 71, 85, 99], 42) := by decide +kernel
theorem dX11_about_64 : decode cX11_about 64 = .ok (.aload_n 0, 1) := by decide +kernel
theorem dX11_about_65 : decode cX11_about 65 = .ok (.getfield 44, 3) := by decide +kernel
theorem dX11_about_68 : decode cX11_about 68 = .ok (.sipush 200, 3) := by decide +kernel
theorem dX11_about_71 : decode cX11_about 71 = .ok (.iaload, 1) := by decide +kernel
theorem dX11_about_72 : decode cX11_about 72 = .ok (.ireturn, 1) := by decide +kernel
theorem dX11_about_73 : decode cX11_about 73 = .ok (.iload_n 2, 1) := by decide +kernel
theorem dX11_about_74 : decode cX11_about 74 = .ok (.ireturn, 1) := by decide +kernel
theorem dX11_about_75 : decode cX11_about 75 = .ok (.aload_n 0, 1) := by decide +kernel
theorem dX11_about_76 : decode cX11_about 76 = .ok (.invokevirtual 166, 3) := by decide +kernel
theorem dX11_about_79 : decode cX11_about 79 = .ok (.ireturn, 1) := by decide +kernel
theorem dX11_about_80 : decode cX11_about 80 = .ok (.aload_n 0, 1) := by decide +kernel
theorem dX11_about_81 : decode cX11_about 81 = .ok (.invokevirtual 170, 3) := by decide +kernel
theorem dX11_about_84 : decode cX11_about 84 = .ok (.ifCond .eq 7, 3) := by decide +kernel
theorem dX11_about_87 : decode cX11_about 87 = .ok (.iconst 1, 1) := by decide +kernel
theorem dX11_about_88 : decode cX11_about 88 = .ok (.goto 4, 3) := by decide +kernel
theorem dX11_about_91 : decode cX11_about 91 = .ok (.iconst 0, 1) := by decide +kernel
theorem dX11_about_92 : decode cX11_about 92 = .ok (.ireturn, 1) := by decide +kernel
theorem dX11_about_93 : decode cX11_about 93 = .ok (.aload_n 0, 1) := by decide +kernel
theorem dX11_about_94 : decode cX11_about 94 = .ok (.iconst 1, 1) := by decide +kernel
theorem dX11_about_95 : decode cX11_about 95 = .ok (.invokevirtual 174, 3) := by decide +kernel
theorem dX11_about_98 : decode cX11_about 98 = .ok (.ifCond .eq 7, 3) := by decide +kernel
theorem dX11_about_101 : decode cX11_about 101 = .ok (.iconst 1, 1) := by decide +kernel
theorem dX11_about_102 : decode cX11_about 102 = .ok (.goto 4, 3) := by decide +kernel
theorem dX11_about_105 : decode cX11_about 105 = .ok (.iconst 0, 1) := by decide +kernel
theorem dX11_about_106 : decode cX11_about 106 = .ok (.ireturn, 1) := by decide +kernel
theorem dX11_about_107 : decode cX11_about 107 = .ok (.aload_n 0, 1) := by decide +kernel
theorem dX11_about_108 : decode cX11_about 108 = .ok (.iconst 2, 1) := by decide +kernel
theorem dX11_about_109 : decode cX11_about 109 = .ok (.invokevirtual 174, 3) := by decide +kernel
theorem dX11_about_112 : decode cX11_about 112 = .ok (.ifCond .eq 7, 3) := by decide +kernel
theorem dX11_about_115 : decode cX11_about 115 = .ok (.iconst 1, 1) := by decide +kernel
theorem dX11_about_116 : decode cX11_about 116 = .ok (.goto 4, 3) := by decide +kernel
theorem dX11_about_119 : decode cX11_about 119 = .ok (.iconst 0, 1) := by decide +kernel
theorem dX11_about_120 : decode cX11_about 120 = .ok (.ireturn, 1) := by decide +kernel
theorem dX11_about_121 : decode cX11_about 121 = .ok (.aload_n 0, 1) := by decide +kernel
theorem dX11_about_122 : decode cX11_about 122 = .ok (.getfield 13, 3) := by decide +kernel
theorem dX11_about_125 : decode cX11_about 125 = .ok (.aload_n 0, 1) := by decide +kernel
theorem dX11_about_126 : decode cX11_about 126 = .ok (.getfield 41, 3) := by decide +kernel
theorem dX11_about_129 : decode cX11_about 129 = .ok (.sipush 8000, 3) := by decide +kernel
theorem dX11_about_132 : decode cX11_about 132 = .ok (.baload, 1) := by decide +kernel
theorem dX11_about_133 : decode cX11_about 133 = .ok (.iaload, 1) := by decide +kernel
theorem dX11_about_134 : decode cX11_about 134 = .ok (.iconst 1, 1) := by decide +kernel
theorem dX11_about_135 : decode cX11_about 135 = .ok (.if_icmp .eq 31, 3) := by decide +kernel
theorem dX11_about_138 : decode cX11_about 138 = .ok (.aload_n 0, 1) := by decide +kernel
theorem dX11_about_139 : decode cX11_about 139 = .ok (.getfield 13, 3) := by decide +kernel
theorem dX11_about_142 : decode cX11_about 142 = .ok (.aload_n 0, 1) := by decide +kernel
theorem dX11_about_143 : decode cX11_about 143 = .ok (.getfield 41, 3) := by decide +kernel
theorem dX11_about_146 : decode cX11_about 146 = .ok (.sipush 8000, 3) := by decide +kernel
theorem dX11_about_149 : decode cX11_about 149 = .ok (.aload_n 0, 1) := by decide +kernel
theorem dX11_about_150 : decode cX11_about 150 = .ok (.getfield 44, 3) := by decide +kernel
theorem dX11_about_153 : decode cX11_about 153 = .ok (.sipush 200, 3) := by decide +kernel
theorem dX11_about_156 : decode cX11_about 156 = .ok (.iaload, 1) := by decide +kernel
theorem dX11_about_157 : decode cX11_about 157 = .ok (.iadd, 1) := by decide +kernel
theorem dX11_about_158 : decode cX11_about 158 = .ok (.iconst 1, 1) := by decide +kernel
theorem dX11_about_159 : decode cX11_about 159 = .ok (.isub, 1) := by decide +kernel
theorem dX11_about_160 : decode cX11_about 160 = .ok (.baload, 1) := by decide +kernel
theorem dX11_about_161 : decode cX11_about 161 = .ok (.iaload, 1) := by decide +kernel
theorem dX11_about_162 : decode cX11_about 162 = .ok (.iconst 1, 1) := by decide +kernel
theorem dX11_about_163 : decode cX11_about 163 = .ok (.if_icmp .ne 7, 3) := by decide +kernel
theorem dX11_about_166 : decode cX11_about 166 = .ok (.iconst 1, 1) := by decide +kernel
theorem dX11_about_167 : decode cX11_about 167 = .ok (.goto 4, 3) := by decide +kernel
theorem dX11_about_170 : decode cX11_about 170 = .ok (.iconst 0, 1) := by decide +kernel
theorem dX11_about_171 : decode cX11_about 171 = .ok (.ireturn, 1) := by decide +kernel
theorem dX11_about_172 : decode cX11_about 172 = .ok (.iload_n 1, 1) := by decide +kernel
theorem dX11_about_173 : decode cX11_about 173 = .ok (.bipush 20, 2) := by decide +kernel
theorem dX11_about_175 : decode cX11_about 175 = .ok (.bipush 19, 2) := by decide +kernel
theorem dX11_about_177 : decode cX11_about 177 = .ok (.iload_n 2, 1) := by decide +kernel
theorem dX11_about_178 : decode cX11_about 178 = .ok (.iadd, 1) := by decide +kernel
theorem dX11_about_179 : decode cX11_about 179 = .ok (.invokestatic 106, 3) := by decide +kernel
theorem dX11_about_182 : decode cX11_about 182 = .ok (.ifCond .eq 15, 3) := by decide +kernel
theorem dX11_about_185 : decode cX11_about 185 = .ok (.aload_n 0, 1) := by decide +kernel
theorem dX11_about_186 : decode cX11_about 186 = .ok (.getfield 51, 3) := by decide +kernel
theorem dX11_about_189 : decode cX11_about 189 = .ok (.iload_n 1, 1) := by decide +kernel
theorem dX11_about_190 : decode cX11_about 190 = .ok (.bipush 20, 2) := by decide +kernel
theorem dX11_about_192 : decode cX11_about 192 = .ok (.isub, 1) := by decide +kernel
theorem dX11_about_193 : decode cX11_about 193 = .ok (.iaload, 1) := by decide +kernel
theorem dX11_about_194 : decode cX11_about 194 = .ok (.goto 4, 3) := by decide +kernel
theorem dX11_about_197 : decode cX11_about 197 = .ok (.iconst (-1), 1) := by decide +kernel
theorem dX11_about_198 : decode cX11_about 198 = .ok (.ireturn, 1) := by decide +kernel
theorem dX11_piece_0 : decode cX11_piece 0 = .ok (.iload_n 2, 1) := by decide +kernel
theorem dX11_piece_1 : decode cX11_piece 1 = .ok (.iconst 1, 1) := by decide +kernel
theorem dX11_piece_2 : decode cX11_piece 2 = .ok (.if_icmp .ne 9, 3) := by decide +kernel
theorem dX11_piece_5 : decode cX11_piece 5 = .ok (.aload_n 0, 1) := by decide +kernel
theorem dX11_piece_6 : decode cX11_piece 6 = .ok (.iload_n 1, 1) := by decide +kernel
theorem dX11_piece_7 : decode cX11_piece 7 = .ok (.iaload, 1) := by decide +kernel
theorem dX11_piece_8 : decode cX11_piece 8 = .ok (.goto 16, 3) := by decide +kernel
theorem dX11_piece_11 : decode cX11_piece 11 = .ok (.sipush 256, 3) := by decide +kernel
theorem dX11_piece_14 : decode cX11_piece 14 = .ok (.aload_n 0, 1) := by decide +kernel
theorem dX11_piece_15 : decode cX11_piece 15 = .ok (.iload_n 1, 1) := by decide +kernel
theorem dX11_piece_16 : decode cX11_piece 16 = .ok (.iaload, 1) := by decide +kernel
theorem dX11_piece_17 : decode cX11_piece 17 = .ok (.imul, 1) := by decide +kernel
theorem dX11_piece_18 : decode cX11_piece 18 = .ok (.aload_n 0, 1) := by decide +kernel
theorem dX11_piece_19 : decode cX11_piece 19 = .ok (.iload_n 1, 1) := by decide +kernel
theorem dX11_piece_20 : decode cX11_piece 20 = .ok (.iconst 1, 1) := by decide +kernel
theorem dX11_piece_21 : decode cX11_piece 21 = .ok (.iadd, 1) := by decide +kernel
theorem dX11_piece_22 : decode cX11_piece 22 = .ok (.iaload, 1) := by decide +kernel
theorem dX11_piece_23 : decode cX11_piece 23 = .ok (.iadd, 1) := by decide +kernel
theorem dX11_piece_24 : decode cX11_piece 24 = .ok (.ireturn, 1) := by decide +kernel
theorem dX11_reckon_0 : decode cX11_reckon 0 = .ok (.aload_n 0, 1) := by decide +kernel
theorem dX11_reckon_1 : decode cX11_reckon 1 = .ok (.aload_n 0, 1) := by decide +kernel
theorem dX11_reckon_2 : decode cX11_reckon 2 = .ok (.iload_n 1, 1) := by decide +kernel
theorem dX11_reckon_3 : decode cX11_reckon 3 = .ok (.aload_n 0, 1) := by decide +kernel
theorem dX11_reckon_4 : decode cX11_reckon 4 = .ok (.getfield 51, 3) := by decide +kernel
theorem dX11_reckon_7 : decode cX11_reckon 7 = .ok (.invokevirtual 162, 3) := by decide +kernel
theorem dX11_reckon_10 : decode cX11_reckon 10 = .ok (.putfield 177, 3) := by decide +kernel
theorem dX11_reckon_13 : decode cX11_reckon 13 = .ok (.aload_n 0, 1) := by decide +kernel
theorem dX11_reckon_14 : decode cX11_reckon 14 = .ok (.aload_n 0, 1) := by decide +kernel
theorem dX11_reckon_15 : decode cX11_reckon 15 = .ok (.iload_n 2, 1) := by decide +kernel
theorem dX11_reckon_16 : decode cX11_reckon 16 = .ok (.aload_n 0, 1) := by decide +kernel
theorem dX11_reckon_17 : decode cX11_reckon 17 = .ok (.getfield 54, 3) := by decide +kernel
theorem dX11_reckon_20 : decode cX11_reckon 20 = .ok (.invokevirtual 162, 3) := by decide +kernel
theorem dX11_reckon_23 : decode cX11_reckon 23 = .ok (.putfield 180, 3) := by decide +kernel
theorem dX11_reckon_26 : decode cX11_reckon 26 = .ok (.aload_n 0, 1) := by decide +kernel
theorem dX11_reckon_27 : decode cX11_reckon 27 = .ok (.getfield 177, 3) := by decide +kernel
theorem dX11_reckon_30 : decode cX11_reckon 30 = .ok (.istore_n 3, 1) := by decide +kernel
theorem dX11_reckon_31 : decode cX11_reckon 31 = .ok (.iload_n 3, 1) := by decide +kernel
theorem dX11_reckon_32 : decode cX11_reckon 32 = .ok (.ifCond .lt 194, 3) := by decide +kernel
theorem dX11_reckon_35 : decode cX11_reckon 35 = .ok (.aload_n 0, 1) := by decide +kernel
theorem dX11_reckon_36 : decode cX11_reckon 36 = .ok (.getfield 180, 3) := by decide +kernel
theorem dX11_reckon_39 : decode cX11_reckon 39 = .ok (.istore 4, 2) := by decide +kernel
theorem dX11_reckon_41 : decode cX11_reckon 41 = .ok (.iload 4, 2) := by decide +kernel
theorem dX11_reckon_43 : decode cX11_reckon 43 = .ok (.ifCond .lt 177, 3) := by decide +kernel
theorem dX11_reckon_46 : decode cX11_reckon 46 = .ok (.iload_n 3, 1) := by decide +kernel
theorem dX11_reckon_47 : decode cX11_reckon 47 = .ok (.aload_n 0, 1) := by decide +kernel
theorem dX11_reckon_48 : decode cX11_reckon 48 = .ok (.getfield 177, 3) := by decide +kernel
theorem dX11_reckon_51 : decode cX11_reckon 51 = .ok (.if_icmp .ne 16, 3) := by decide +kernel
theorem dX11_reckon_54 : decode cX11_reckon 54 = .ok (.iload 4, 2) := by decide +kernel
theorem dX11_reckon_56 : decode cX11_reckon 56 = .ok (.aload_n 0, 1) := by decide +kernel
theorem dX11_reckon_57 : decode cX11_reckon 57 = .ok (.getfield 180, 3) := by decide +kernel
theorem dX11_reckon_60 : decode cX11_reckon 60 = .ok (.if_icmp .ne 7, 3) := by decide +kernel
theorem dX11_reckon_63 : decode cX11_reckon 63 = .ok (.iconst 0, 1) := by decide +kernel
theorem dX11_reckon_64 : decode cX11_reckon 64 = .ok (.goto 5, 3) := by decide +kernel
theorem dX11_reckon_67 : decode cX11_reckon 67 = .ok (.ldc 134, 2) := by decide +kernel
theorem dX11_reckon_69 : decode cX11_reckon 69 = .ok (.istore 5, 2) := by decide +kernel
theorem dX11_reckon_71 : decode cX11_reckon 71 = .ok (.iconst 1, 1) := by decide +kernel
theorem dX11_reckon_72 : decode cX11_reckon 72 = .ok (.istore 6, 2) := by decide +kernel
theorem dX11_reckon_74 : decode cX11_reckon 74 = .ok (.iload 6, 2) := by decide +kernel
theorem dX11_reckon_76 : decode cX11_reckon 76 = .ok (.iconst 2, 1) := by decide +kernel
theorem dX11_reckon_77 : decode cX11_reckon 77 = .ok (.if_icmp .gt 123, 3) := by decide +kernel
theorem dX11_reckon_80 : decode cX11_reckon 80 = .ok (.iload_n 3, 1) := by decide +kernel
theorem dX11_reckon_81 : decode cX11_reckon 81 = .ok (.iload 6, 2) := by decide +kernel
theorem dX11_reckon_83 : decode cX11_reckon 83 = .ok (.iadd, 1) := by decide +kernel
theorem dX11_reckon_84 : decode cX11_reckon 84 = .ok (.aload_n 0, 1) := by decide +kernel
theorem dX11_reckon_85 : decode cX11_reckon 85 = .ok (.getfield 177, 3) := by decide +kernel
theorem dX11_reckon_88 : decode cX11_reckon 88 = .ok (.if_icmp .gt 112, 3) := by decide +kernel
theorem dX11_reckon_91 : decode cX11_reckon 91 = .ok (.iconst 1, 1) := by decide +kernel
theorem dX11_reckon_92 : decode cX11_reckon 92 = .ok (.istore 7, 2) := by decide +kernel
theorem dX11_reckon_94 : decode cX11_reckon 94 = .ok (.iload 7, 2) := by decide +kernel
theorem dX11_reckon_96 : decode cX11_reckon 96 = .ok (.iconst 2, 1) := by decide +kernel
theorem dX11_reckon_97 : decode cX11_reckon 97 = .ok (.if_icmp .gt 97, 3) := by decide +kernel
theorem dX11_reckon_100 : decode cX11_reckon 100 = .ok (.iload 4, 2) := by decide +kernel
theorem dX11_reckon_102 : decode cX11_reckon 102 = .ok (.iload 7, 2) := by decide +kernel
theorem dX11_reckon_104 : decode cX11_reckon 104 = .ok (.iadd, 1) := by decide +kernel
theorem dX11_reckon_105 : decode cX11_reckon 105 = .ok (.aload_n 0, 1) := by decide +kernel
theorem dX11_reckon_106 : decode cX11_reckon 106 = .ok (.getfield 180, 3) := by decide +kernel
theorem dX11_reckon_109 : decode cX11_reckon 109 = .ok (.if_icmp .gt 85, 3) := by decide +kernel
theorem dX11_reckon_112 : decode cX11_reckon 112 = .ok (.aload_n 0, 1) := by decide +kernel
theorem dX11_reckon_113 : decode cX11_reckon 113 = .ok (.getfield 57, 3) := by decide +kernel
theorem dX11_reckon_116 : decode cX11_reckon 116 = .ok (.bipush 41, 2) := by decide +kernel
theorem dX11_reckon_118 : decode cX11_reckon 118 = .ok (.iload_n 3, 1) := by decide +kernel
theorem dX11_reckon_119 : decode cX11_reckon 119 = .ok (.iload 6, 2) := by decide +kernel
theorem dX11_reckon_121 : decode cX11_reckon 121 = .ok (.iadd, 1) := by decide +kernel
theorem dX11_reckon_122 : decode cX11_reckon 122 = .ok (.imul, 1) := by decide +kernel
theorem dX11_reckon_123 : decode cX11_reckon 123 = .ok (.iload 4, 2) := by decide +kernel
theorem dX11_reckon_125 : decode cX11_reckon 125 = .ok (.iadd, 1) := by decide +kernel
theorem dX11_reckon_126 : decode cX11_reckon 126 = .ok (.iload 7, 2) := by decide +kernel
theorem dX11_reckon_128 : decode cX11_reckon 128 = .ok (.iadd, 1) := by decide +kernel
theorem dX11_reckon_129 : decode cX11_reckon 129 = .ok (.iaload, 1) := by decide +kernel
theorem dX11_reckon_130 : decode cX11_reckon 130 = .ok (.istore 8, 2) := by decide +kernel
theorem dX11_reckon_132 : decode cX11_reckon 132 = .ok (.iload 8, 2) := by decide +kernel
theorem dX11_reckon_134 : decode cX11_reckon 134 = .ok (.iload 5, 2) := by decide +kernel
theorem dX11_reckon_136 : decode cX11_reckon 136 = .ok (.if_icmp .lt 6, 3) := by decide +kernel
theorem dX11_reckon_139 : decode cX11_reckon 139 = .ok (.goto 49, 3) := by decide +kernel
theorem dX11_reckon_142 : decode cX11_reckon 142 = .ok (.aload_n 0, 1) := by decide +kernel
theorem dX11_reckon_143 : decode cX11_reckon 143 = .ok (.aload_n 0, 1) := by decide +kernel
theorem dX11_reckon_144 : decode cX11_reckon 144 = .ok (.getfield 51, 3) := by decide +kernel
theorem dX11_reckon_147 : decode cX11_reckon 147 = .ok (.iload_n 3, 1) := by decide +kernel
theorem dX11_reckon_148 : decode cX11_reckon 148 = .ok (.iload 6, 2) := by decide +kernel
theorem dX11_reckon_150 : decode cX11_reckon 150 = .ok (.invokestatic 183, 3) := by decide +kernel
theorem dX11_reckon_153 : decode cX11_reckon 153 = .ok (.aload_n 0, 1) := by decide +kernel
theorem dX11_reckon_154 : decode cX11_reckon 154 = .ok (.getfield 54, 3) := by decide +kernel
theorem dX11_reckon_157 : decode cX11_reckon 157 = .ok (.iload 4, 2) := by decide +kernel
theorem dX11_reckon_159 : decode cX11_reckon 159 = .ok (.iload 7, 2) := by decide +kernel
theorem dX11_reckon_161 : decode cX11_reckon 161 = .ok (.invokestatic 183, 3) := by decide +kernel
theorem dX11_reckon_164 : decode cX11_reckon 164 = .ok (.invokevirtual 138, 3) := by decide +kernel
theorem dX11_reckon_167 : decode cX11_reckon 167 = .ok (.iload 8, 2) := by decide +kernel
theorem dX11_reckon_169 : decode cX11_reckon 169 = .ok (.iadd, 1) := by decide +kernel
theorem dX11_reckon_170 : decode cX11_reckon 170 = .ok (.istore 9, 2) := by decide +kernel
theorem dX11_reckon_172 : decode cX11_reckon 172 = .ok (.iload 9, 2) := by decide +kernel
theorem dX11_reckon_174 : decode cX11_reckon 174 = .ok (.iload 5, 2) := by decide +kernel
theorem dX11_reckon_176 : decode cX11_reckon 176 = .ok (.if_icmp .ge 8, 3) := by decide +kernel
theorem dX11_reckon_179 : decode cX11_reckon 179 = .ok (.iload 9, 2) := by decide +kernel
theorem dX11_reckon_181 : decode cX11_reckon 181 = .ok (.goto 5, 3) := by decide +kernel
theorem dX11_reckon_184 : decode cX11_reckon 184 = .ok (.iload 5, 2) := by decide +kernel
theorem dX11_reckon_186 : decode cX11_reckon 186 = .ok (.istore 5, 2) := by decide +kernel
theorem dX11_reckon_188 : decode cX11_reckon 188 = .ok (.iinc 7 1, 3) := by decide +kernel
theorem dX11_reckon_191 : decode cX11_reckon 191 = .ok (.goto (-97), 3) := by decide +kernel
theorem dX11_reckon_194 : decode cX11_reckon 194 = .ok (.iinc 6 1, 3) := by decide +kernel
theorem dX11_reckon_197 : decode cX11_reckon 197 = .ok (.goto (-123), 3) := by decide +kernel
theorem dX11_reckon_200 : decode cX11_reckon 200 = .ok (.aload_n 0, 1) := by decide +kernel
theorem dX11_reckon_201 : decode cX11_reckon 201 = .ok (.getfield 57, 3) := by decide +kernel
theorem dX11_reckon_204 : decode cX11_reckon 204 = .ok (.bipush 41, 2) := by decide +kernel
theorem dX11_reckon_206 : decode cX11_reckon 206 = .ok (.iload_n 3, 1) := by decide +kernel
theorem dX11_reckon_207 : decode cX11_reckon 207 = .ok (.imul, 1) := by decide +kernel
theorem dX11_reckon_208 : decode cX11_reckon 208 = .ok (.iload 4, 2) := by decide +kernel
theorem dX11_reckon_210 : decode cX11_reckon 210 = .ok (.iadd, 1) := by decide +kernel
theorem dX11_reckon_211 : decode cX11_reckon 211 = .ok (.iload 5, 2) := by decide +kernel
theorem dX11_reckon_213 : decode cX11_reckon 213 = .ok (.iastore, 1) := by decide +kernel
theorem dX11_reckon_214 : decode cX11_reckon 214 = .ok (.iinc 4 (-1), 3) := by decide +kernel
theorem dX11_reckon_217 : decode cX11_reckon 217 = .ok (.goto (-176), 3) := by decide +kernel
theorem dX11_reckon_220 : decode cX11_reckon 220 = .ok (.iinc 3 (-1), 3) := by decide +kernel
theorem dX11_reckon_223 : decode cX11_reckon 223 = .ok (.goto (-192), 3) := by decide +kernel
theorem dX11_reckon_226 : decode cX11_reckon 226 = .ok (.aload_n 0, 1) := by decide +kernel
theorem dX11_reckon_227 : decode cX11_reckon 227 = .ok (.getfield 57, 3) := by decide +kernel
theorem dX11_reckon_230 : decode cX11_reckon 230 = .ok (.iconst 0, 1) := by decide +kernel
theorem dX11_reckon_231 : decode cX11_reckon 231 = .ok (.iaload, 1) := by decide +kernel
theorem dX11_reckon_232 : decode cX11_reckon 232 = .ok (.ireturn, 1) := by decide +kernel
theorem dX11_isSame_0 : decode cX11_isSame 0 = .ok (.aload_n 0, 1) := by decide +kernel
theorem dX11_isSame_1 : decode cX11_isSame 1 = .ok (.aload_n 0, 1) := by decide +kernel
theorem dX11_isSame_2 : decode cX11_isSame 2 = .ok (.iload_n 1, 1) := by decide +kernel
theorem dX11_isSame_3 : decode cX11_isSame 3 = .ok (.aload_n 0, 1) := by decide +kernel
theorem dX11_isSame_4 : decode cX11_isSame 4 = .ok (.getfield 51, 3) := by decide +kernel
theorem dX11_isSame_7 : decode cX11_isSame 7 = .ok (.invokevirtual 162, 3) := by decide +kernel
theorem dX11_isSame_10 : decode cX11_isSame 10 = .ok (.putfield 177, 3) := by decide +kernel
theorem dX11_isSame_13 : decode cX11_isSame 13 = .ok (.aload_n 0, 1) := by decide +kernel
theorem dX11_isSame_14 : decode cX11_isSame 14 = .ok (.aload_n 0, 1) := by decide +kernel
theorem dX11_isSame_15 : decode cX11_isSame 15 = .ok (.iload_n 2, 1) := by decide +kernel
theorem dX11_isSame_16 : decode cX11_isSame 16 = .ok (.aload_n 0, 1) := by decide +kernel
theorem dX11_isSame_17 : decode cX11_isSame 17 = .ok (.getfield 54, 3) := by decide +kernel
theorem dX11_isSame_20 : decode cX11_isSame 20 = .ok (.invokevirtual 162, 3) := by decide +kernel
theorem dX11_isSame_23 : decode cX11_isSame 23 = .ok (.putfield 180, 3) := by decide +kernel
theorem dX11_isSame_26 : decode cX11_isSame 26 = .ok (.aload_n 0, 1) := by decide +kernel
theorem dX11_isSame_27 : decode cX11_isSame 27 = .ok (.getfield 177, 3) := by decide +kernel
theorem dX11_isSame_30 : decode cX11_isSame 30 = .ok (.aload_n 0, 1) := by decide +kernel
theorem dX11_isSame_31 : decode cX11_isSame 31 = .ok (.getfield 180, 3) := by decide +kernel
theorem dX11_isSame_34 : decode cX11_isSame 34 = .ok (.if_icmp .ne 7, 3) := by decide +kernel
theorem dX11_isSame_37 : decode cX11_isSame 37 = .ok (.iconst 1, 1) := by decide +kernel
theorem dX11_isSame_38 : decode cX11_isSame 38 = .ok (.goto 4, 3) := by decide +kernel
theorem dX11_isSame_41 : decode cX11_isSame 41 = .ok (.iconst 0, 1) := by decide +kernel
theorem dX11_isSame_42 : decode cX11_isSame 42 = .ok (.istore_n 3, 1) := by decide +kernel
theorem dX11_isSame_43 : decode cX11_isSame 43 = .ok (.iconst 0, 1) := by decide +kernel
theorem dX11_isSame_44 : decode cX11_isSame 44 = .ok (.istore 4, 2) := by decide +kernel
theorem dX11_isSame_46 : decode cX11_isSame 46 = .ok (.iload 4, 2) := by decide +kernel
theorem dX11_isSame_48 : decode cX11_isSame 48 = .ok (.aload_n 0, 1) := by decide +kernel
theorem dX11_isSame_49 : decode cX11_isSame 49 = .ok (.getfield 177, 3) := by decide +kernel
theorem dX11_isSame_52 : decode cX11_isSame 52 = .ok (.if_icmp .ge 36, 3) := by decide +kernel
theorem dX11_isSame_55 : decode cX11_isSame 55 = .ok (.iload_n 3, 1) := by decide +kernel
theorem dX11_isSame_56 : decode cX11_isSame 56 = .ok (.ifCond .eq 32, 3) := by decide +kernel
theorem dX11_isSame_59 : decode cX11_isSame 59 = .ok (.aload_n 0, 1) := by decide +kernel
theorem dX11_isSame_60 : decode cX11_isSame 60 = .ok (.getfield 51, 3) := by decide +kernel
theorem dX11_isSame_63 : decode cX11_isSame 63 = .ok (.iload 4, 2) := by decide +kernel
theorem dX11_isSame_65 : decode cX11_isSame 65 = .ok (.iaload, 1) := by decide +kernel
theorem dX11_isSame_66 : decode cX11_isSame 66 = .ok (.aload_n 0, 1) := by decide +kernel
theorem dX11_isSame_67 : decode cX11_isSame 67 = .ok (.getfield 54, 3) := by decide +kernel
theorem dX11_isSame_70 : decode cX11_isSame 70 = .ok (.iload 4, 2) := by decide +kernel
theorem dX11_isSame_72 : decode cX11_isSame 72 = .ok (.iaload, 1) := by decide +kernel
theorem dX11_isSame_73 : decode cX11_isSame 73 = .ok (.if_icmp .ne 7, 3) := by decide +kernel
theorem dX11_isSame_76 : decode cX11_isSame 76 = .ok (.iconst 1, 1) := by decide +kernel
theorem dX11_isSame_77 : decode cX11_isSame 77 = .ok (.goto 4, 3) := by decide +kernel
theorem dX11_isSame_80 : decode cX11_isSame 80 = .ok (.iconst 0, 1) := by decide +kernel
theorem dX11_isSame_81 : decode cX11_isSame 81 = .ok (.istore_n 3, 1) := by decide +kernel
theorem dX11_isSame_82 : decode cX11_isSame 82 = .ok (.iinc 4 1, 3) := by decide +kernel
theorem dX11_isSame_85 : decode cX11_isSame 85 = .ok (.goto (-39), 3) := by decide +kernel
theorem dX11_isSame_88 : decode cX11_isSame 88 = .ok (.iload_n 3, 1) := by decide +kernel
theorem dX11_isSame_89 : decode cX11_isSame 89 = .ok (.ireturn, 1) := by decide +kernel
theorem dX11_isRegister_0 : decode cX11_isRegister 0 = .ok (.iload_n 0, 1) := by decide +kernel
theorem dX11_isRegister_1 : decode cX11_isRegister 1 = .ok (.iconst 0, 1) := by decide +kernel
theorem dX11_isRegister_2 : decode cX11_isRegister 2 = .ok (.iconst 3, 1) := by decide +kernel
theorem dX11_isRegister_3 : decode cX11_isRegister 3 = .ok (.invokestatic 106, 3) := by decide +kernel
theorem dX11_isRegister_6 : decode cX11_isRegister 6 = .ok (.ireturn, 1) := by decide +kernel
theorem dX11_rule_0 : decode cX11_rule 0 = .ok (.iload_n 1, 1) := by decide +kernel
theorem dX11_rule_1 : decode cX11_rule 1 = .ok (.invokestatic 187, 3) := by decide +kernel
theorem dX11_rule_4 : decode cX11_rule 4 = .ok (.ifCond .eq 25, 3) := by decide +kernel
theorem dX11_rule_7 : decode cX11_rule 7 = .ok (.iload_n 2, 1) := by decide +kernel
theorem dX11_rule_8 : decode cX11_rule 8 = .ok (.iconst 0, 1) := by decide +kernel
theorem dX11_rule_9 : decode cX11_rule 9 = .ok (.sipush 200, 3) := by decide +kernel
theorem dX11_rule_12 : decode cX11_rule 12 = .ok (.invokestatic 106, 3) := by decide +kernel
theorem dX11_rule_15 : decode cX11_rule 15 = .ok (.ifCond .eq 14, 3) := by decide +kernel
theorem dX11_rule_18 : decode cX11_rule 18 = .ok (.iload_n 3, 1) := by decide +kernel
theorem dX11_rule_19 : decode cX11_rule 19 = .ok (.iload_n 2, 1) := by decide +kernel
theorem dX11_rule_20 : decode cX11_rule 20 = .ok (.sipush 200, 3) := by decide +kernel
theorem dX11_rule_23 : decode cX11_rule 23 = .ok (.invokestatic 106, 3) := by decide +kernel
theorem dX11_rule_26 : decode cX11_rule 26 = .ok (.ifCond .ne 6, 3) := by decide +kernel
theorem dX11_rule_29 : decode cX11_rule 29 = .ok (.bipush (-2), 2) := by decide +kernel
theorem dX11_rule_31 : decode cX11_rule 31 = .ok (.ireturn, 1) := by decide +kernel
theorem dX11_rule_32 : decode cX11_rule 32 = .ok (.aload_n 0, 1) := by decide +kernel
theorem dX11_rule_33 : decode cX11_rule 33 = .ok (.getfield 60, 3) := by decide +kernel
theorem dX11_rule_36 : decode cX11_rule 36 = .ok (.iload_n 1, 1) := by decide +kernel
theorem dX11_rule_37 : decode cX11_rule 37 = .ok (.iload_n 2, 1) := by decide +kernel
theorem dX11_rule_38 : decode cX11_rule 38 = .ok (.iastore, 1) := by decide +kernel
theorem dX11_rule_39 : decode cX11_rule 39 = .ok (.aload_n 0, 1) := by decide +kernel
theorem dX11_rule_40 : decode cX11_rule 40 = .ok (.getfield 63, 3) := by decide +kernel
theorem dX11_rule_43 : decode cX11_rule 43 = .ok (.iload_n 1, 1) := by decide +kernel
theorem dX11_rule_44 : decode cX11_rule 44 = .ok (.iload_n 3, 1) := by decide +kernel
theorem dX11_rule_45 : decode cX11_rule 45 = .ok (.iastore, 1) := by decide +kernel
theorem dX11_rule_46 : decode cX11_rule 46 = .ok (.aload_n 0, 1) := by decide +kernel
theorem dX11_rule_47 : decode cX11_rule 47 = .ok (.getfield 66, 3) := by decide +kernel
theorem dX11_rule_50 : decode cX11_rule 50 = .ok (.iload_n 1, 1) := by decide +kernel
theorem dX11_rule_51 : decode cX11_rule 51 = .ok (.iload 4, 2) := by decide +kernel
theorem dX11_rule_53 : decode cX11_rule 53 = .ok (.bastore, 1) := by decide +kernel
theorem dX11_rule_54 : decode cX11_rule 54 = .ok (.iconst 1, 1) := by decide +kernel
theorem dX11_rule_55 : decode cX11_rule 55 = .ok (.ireturn, 1) := by decide +kernel
theorem dX11_isIn_0 : decode cX11_isIn 0 = .ok (.aload_n 0, 1) := by decide +kernel
theorem dX11_isIn_1 : decode cX11_isIn 1 = .ok (.getfield 76, 3) := by decide +kernel
theorem dX11_isIn_4 : decode cX11_isIn 4 = .ok (.iload_n 1, 1) := by decide +kernel
theorem dX11_isIn_5 : decode cX11_isIn 5 = .ok (.baload, 1) := by decide +kernel
theorem dX11_isIn_6 : decode cX11_isIn 6 = .ok (.ifCond .eq 17, 3) := by decide +kernel
theorem dX11_isIn_9 : decode cX11_isIn 9 = .ok (.aload_n 0, 1) := by decide +kernel
theorem dX11_isIn_10 : decode cX11_isIn 10 = .ok (.getfield 70, 3) := by decide +kernel
theorem dX11_isIn_13 : decode cX11_isIn 13 = .ok (.iload_n 1, 1) := by decide +kernel
theorem dX11_isIn_14 : decode cX11_isIn 14 = .ok (.iaload, 1) := by decide +kernel
theorem dX11_isIn_15 : decode cX11_isIn 15 = .ok (.iload_n 2, 1) := by decide +kernel
theorem dX11_isIn_16 : decode cX11_isIn 16 = .ok (.if_icmp .ne 7, 3) := by decide +kernel
theorem dX11_isIn_19 : decode cX11_isIn 19 = .ok (.iconst 1, 1) := by decide +kernel
theorem dX11_isIn_20 : decode cX11_isIn 20 = .ok (.goto 4, 3) := by decide +kernel
theorem dX11_isIn_23 : decode cX11_isIn 23 = .ok (.iconst 0, 1) := by decide +kernel
theorem dX11_isIn_24 : decode cX11_isIn 24 = .ok (.ireturn, 1) := by decide +kernel
theorem dX11_ask_0 : decode cX11_ask 0 = .ok (.iload_n 1, 1) := by decide +kernel
theorem dX11_ask_1 : decode cX11_ask 1 = .ok (.invokestatic 187, 3) := by decide +kernel
theorem dX11_ask_4 : decode cX11_ask 4 = .ok (.ifCond .eq 13, 3) := by decide +kernel
theorem dX11_ask_7 : decode cX11_ask 7 = .ok (.iload_n 2, 1) := by decide +kernel
theorem dX11_ask_8 : decode cX11_ask 8 = .ok (.iconst 0, 1) := by decide +kernel
theorem dX11_ask_9 : decode cX11_ask 9 = .ok (.bipush 31, 2) := by decide +kernel
theorem dX11_ask_11 : decode cX11_ask 11 = .ok (.invokestatic 106, 3) := by decide +kernel
theorem dX11_ask_14 : decode cX11_ask 14 = .ok (.ifCond .ne 6, 3) := by decide +kernel
theorem dX11_ask_17 : decode cX11_ask 17 = .ok (.bipush (-2), 2) := by decide +kernel
theorem dX11_ask_19 : decode cX11_ask 19 = .ok (.ireturn, 1) := by decide +kernel
theorem dX11_ask_20 : decode cX11_ask 20 = .ok (.aload_n 0, 1) := by decide +kernel
theorem dX11_ask_21 : decode cX11_ask 21 = .ok (.getfield 158, 3) := by decide +kernel
theorem dX11_ask_24 : decode cX11_ask 24 = .ok (.ifCond .eq 17, 3) := by decide +kernel
theorem dX11_ask_27 : decode cX11_ask 27 = .ok (.aload_n 0, 1) := by decide +kernel
theorem dX11_ask_28 : decode cX11_ask 28 = .ok (.sipush 200, 3) := by decide +kernel
theorem dX11_ask_31 : decode cX11_ask 31 = .ok (.aload_n 0, 1) := by decide +kernel
theorem dX11_ask_32 : decode cX11_ask 32 = .ok (.getfield 51, 3) := by decide +kernel
theorem dX11_ask_35 : decode cX11_ask 35 = .ok (.invokevirtual 162, 3) := by decide +kernel
theorem dX11_ask_38 : decode cX11_ask 38 = .ok (.ifCond .ne 5, 3) := by decide +kernel
theorem dX11_ask_41 : decode cX11_ask 41 = .ok (.iconst (-1), 1) := by decide +kernel
theorem dX11_ask_42 : decode cX11_ask 42 = .ok (.ireturn, 1) := by decide +kernel
theorem dX11_ask_43 : decode cX11_ask 43 = .ok (.iconst 0, 1) := by decide +kernel
theorem dX11_ask_44 : decode cX11_ask 44 = .ok (.istore_n 3, 1) := by decide +kernel
theorem dX11_ask_45 : decode cX11_ask 45 = .ok (.iload_n 3, 1) := by decide +kernel
theorem dX11_ask_46 : decode cX11_ask 46 = .ok (.aload_n 0, 1) := by decide +kernel
theorem dX11_ask_47 : decode cX11_ask 47 = .ok (.getfield 190, 3) := by decide +kernel
theorem dX11_ask_50 : decode cX11_ask 50 = .ok (.if_icmp .ge 31, 3) := by decide +kernel
theorem dX11_ask_53 : decode cX11_ask 53 = .ok (.aload_n 0, 1) := by decide +kernel
theorem dX11_ask_54 : decode cX11_ask 54 = .ok (.iload_n 3, 1) := by decide +kernel
theorem dX11_ask_55 : decode cX11_ask 55 = .ok (.iload_n 1, 1) := by decide +kernel
theorem dX11_ask_56 : decode cX11_ask 56 = .ok (.invokevirtual 193, 3) := by decide +kernel
theorem dX11_ask_59 : decode cX11_ask 59 = .ok (.ifCond .eq 16, 3) := by decide +kernel
theorem dX11_ask_62 : decode cX11_ask 62 = .ok (.aload_n 0, 1) := by decide +kernel
theorem dX11_ask_63 : decode cX11_ask 63 = .ok (.sipush 200, 3) := by decide +kernel
theorem dX11_ask_66 : decode cX11_ask 66 = .ok (.iload_n 3, 1) := by decide +kernel
theorem dX11_ask_67 : decode cX11_ask 67 = .ok (.invokevirtual 196, 3) := by decide +kernel
theorem dX11_ask_70 : decode cX11_ask 70 = .ok (.ifCond .eq 5, 3) := by decide +kernel
theorem dX11_ask_73 : decode cX11_ask 73 = .ok (.iconst 3, 1) := by decide +kernel
theorem dX11_ask_74 : decode cX11_ask 74 = .ok (.ireturn, 1) := by decide +kernel
theorem dX11_ask_75 : decode cX11_ask 75 = .ok (.iinc 3 1, 3) := by decide +kernel
theorem dX11_ask_78 : decode cX11_ask 78 = .ok (.goto (-33), 3) := by decide +kernel
theorem dX11_ask_81 : decode cX11_ask 81 = .ok (.ldc 134, 2) := by decide +kernel
theorem dX11_ask_83 : decode cX11_ask 83 = .ok (.istore_n 3, 1) := by decide +kernel
theorem dX11_ask_84 : decode cX11_ask 84 = .ok (.iconst 0, 1) := by decide +kernel
theorem dX11_ask_85 : decode cX11_ask 85 = .ok (.istore 4, 2) := by decide +kernel
theorem dX11_ask_87 : decode cX11_ask 87 = .ok (.iload 4, 2) := by decide +kernel
theorem dX11_ask_89 : decode cX11_ask 89 = .ok (.aload_n 0, 1) := by decide +kernel
theorem dX11_ask_90 : decode cX11_ask 90 = .ok (.getfield 190, 3) := by decide +kernel
theorem dX11_ask_93 : decode cX11_ask 93 = .ok (.if_icmp .ge 57, 3) := by decide +kernel
theorem dX11_ask_96 : decode cX11_ask 96 = .ok (.aload_n 0, 1) := by decide +kernel
theorem dX11_ask_97 : decode cX11_ask 97 = .ok (.iload 4, 2) := by decide +kernel
theorem dX11_ask_99 : decode cX11_ask 99 = .ok (.iload_n 1, 1) := by decide +kernel
theorem dX11_ask_100 : decode cX11_ask 100 = .ok (.invokevirtual 193, 3) := by decide +kernel
theorem dX11_ask_103 : decode cX11_ask 103 = .ok (.ifCond .eq 41, 3) := by decide +kernel
theorem dX11_ask_106 : decode cX11_ask 106 = .ok (.aload_n 0, 1) := by decide +kernel
theorem dX11_ask_107 : decode cX11_ask 107 = .ok (.getfield 73, 3) := by decide +kernel
theorem dX11_ask_110 : decode cX11_ask 110 = .ok (.iload 4, 2) := by decide +kernel
theorem dX11_ask_112 : decode cX11_ask 112 = .ok (.iaload, 1) := by decide +kernel
theorem dX11_ask_113 : decode cX11_ask 113 = .ok (.iload_n 2, 1) := by decide +kernel
theorem dX11_ask_114 : decode cX11_ask 114 = .ok (.if_icmp .ne 6, 3) := by decide +kernel
theorem dX11_ask_117 : decode cX11_ask 117 = .ok (.goto 27, 3) := by decide +kernel
theorem dX11_ask_120 : decode cX11_ask 120 = .ok (.aload_n 0, 1) := by decide +kernel
theorem dX11_ask_121 : decode cX11_ask 121 = .ok (.sipush 200, 3) := by decide +kernel
theorem dX11_ask_124 : decode cX11_ask 124 = .ok (.iload 4, 2) := by decide +kernel
theorem dX11_ask_126 : decode cX11_ask 126 = .ok (.invokevirtual 199, 3) := by decide +kernel
theorem dX11_ask_129 : decode cX11_ask 129 = .ok (.istore 5, 2) := by decide +kernel
theorem dX11_ask_131 : decode cX11_ask 131 = .ok (.iload 5, 2) := by decide +kernel
theorem dX11_ask_133 : decode cX11_ask 133 = .ok (.iload_n 3, 1) := by decide +kernel
theorem dX11_ask_134 : decode cX11_ask 134 = .ok (.if_icmp .ge 8, 3) := by decide +kernel
theorem dX11_ask_137 : decode cX11_ask 137 = .ok (.iload 5, 2) := by decide +kernel
theorem dX11_ask_139 : decode cX11_ask 139 = .ok (.goto 4, 3) := by decide +kernel
theorem dX11_ask_142 : decode cX11_ask 142 = .ok (.iload_n 3, 1) := by decide +kernel
theorem dX11_ask_143 : decode cX11_ask 143 = .ok (.istore_n 3, 1) := by decide +kernel
theorem dX11_ask_144 : decode cX11_ask 144 = .ok (.iinc 4 1, 3) := by decide +kernel
theorem dX11_ask_147 : decode cX11_ask 147 = .ok (.goto (-60), 3) := by decide +kernel
theorem dX11_ask_150 : decode cX11_ask 150 = .ok (.iload_n 3, 1) := by decide +kernel
theorem dX11_ask_151 : decode cX11_ask 151 = .ok (.aload_n 0, 1) := by decide +kernel
theorem dX11_ask_152 : decode cX11_ask 152 = .ok (.getfield 60, 3) := by decide +kernel
theorem dX11_ask_155 : decode cX11_ask 155 = .ok (.iload_n 1, 1) := by decide +kernel
theorem dX11_ask_156 : decode cX11_ask 156 = .ok (.iaload, 1) := by decide +kernel
theorem dX11_ask_157 : decode cX11_ask 157 = .ok (.if_icmp .le 19, 3) := by decide +kernel
theorem dX11_ask_160 : decode cX11_ask 160 = .ok (.aload_n 0, 1) := by decide +kernel
theorem dX11_ask_161 : decode cX11_ask 161 = .ok (.getfield 66, 3) := by decide +kernel
theorem dX11_ask_164 : decode cX11_ask 164 = .ok (.iload_n 1, 1) := by decide +kernel
theorem dX11_ask_165 : decode cX11_ask 165 = .ok (.baload, 1) := by decide +kernel
theorem dX11_ask_166 : decode cX11_ask 166 = .ok (.ifCond .eq 12, 3) := by decide +kernel
theorem dX11_ask_169 : decode cX11_ask 169 = .ok (.aload_n 0, 1) := by decide +kernel
theorem dX11_ask_170 : decode cX11_ask 170 = .ok (.invokevirtual 170, 3) := by decide +kernel
theorem dX11_ask_173 : decode cX11_ask 173 = .ok (.ifCond .eq 5, 3) := by decide +kernel
theorem dX11_ask_176 : decode cX11_ask 176 = .ok (.iconst 2, 1) := by decide +kernel
theorem dX11_ask_177 : decode cX11_ask 177 = .ok (.ireturn, 1) := by decide +kernel
theorem dX11_ask_178 : decode cX11_ask 178 = .ok (.iload_n 3, 1) := by decide +kernel
theorem dX11_ask_179 : decode cX11_ask 179 = .ok (.aload_n 0, 1) := by decide +kernel
theorem dX11_ask_180 : decode cX11_ask 180 = .ok (.getfield 63, 3) := by decide +kernel
theorem dX11_ask_183 : decode cX11_ask 183 = .ok (.iload_n 1, 1) := by decide +kernel
theorem dX11_ask_184 : decode cX11_ask 184 = .ok (.iaload, 1) := by decide +kernel
theorem dX11_ask_185 : decode cX11_ask 185 = .ok (.if_icmp .gt 7, 3) := by decide +kernel
theorem dX11_ask_188 : decode cX11_ask 188 = .ok (.iconst 1, 1) := by decide +kernel
theorem dX11_ask_189 : decode cX11_ask 189 = .ok (.goto 4, 3) := by decide +kernel
theorem dX11_ask_192 : decode cX11_ask 192 = .ok (.iconst 0, 1) := by decide +kernel
theorem dX11_ask_193 : decode cX11_ask 193 = .ok (.ireturn, 1) := by decide +kernel
theorem dX11_enter_0 : decode cX11_enter 0 = .ok (.aload_n 0, 1) := by decide +kernel
theorem dX11_enter_1 : decode cX11_enter 1 = .ok (.iload_n 1, 1) := by decide +kernel
theorem dX11_enter_2 : decode cX11_enter 2 = .ok (.iload_n 2, 1) := by decide +kernel
theorem dX11_enter_3 : decode cX11_enter 3 = .ok (.invokevirtual 202, 3) := by decide +kernel
theorem dX11_enter_6 : decode cX11_enter 6 = .ok (.istore_n 3, 1) := by decide +kernel
theorem dX11_enter_7 : decode cX11_enter 7 = .ok (.iload_n 3, 1) := by decide +kernel
theorem dX11_enter_8 : decode cX11_enter 8 = .ok (.ifCond .ge 5, 3) := by decide +kernel
theorem dX11_enter_11 : decode cX11_enter 11 = .ok (.iload_n 3, 1) := by decide +kernel
theorem dX11_enter_12 : decode cX11_enter 12 = .ok (.ireturn, 1) := by decide +kernel
theorem dX11_enter_13 : decode cX11_enter 13 = .ok (.iload_n 3, 1) := by decide +kernel
theorem dX11_enter_14 : decode cX11_enter 14 = .ok (.iconst 1, 1) := by decide +kernel
theorem dX11_enter_15 : decode cX11_enter 15 = .ok (.if_icmp .le 8, 3) := by decide +kernel
theorem dX11_enter_18 : decode cX11_enter 18 = .ok (.bipush (-10), 2) := by decide +kernel
theorem dX11_enter_20 : decode cX11_enter 20 = .ok (.iload_n 3, 1) := by decide +kernel
theorem dX11_enter_21 : decode cX11_enter 21 = .ok (.isub, 1) := by decide +kernel
theorem dX11_enter_22 : decode cX11_enter 22 = .ok (.ireturn, 1) := by decide +kernel
theorem dX11_enter_23 : decode cX11_enter 23 = .ok (.aload_n 0, 1) := by decide +kernel
theorem dX11_enter_24 : decode cX11_enter 24 = .ok (.getfield 190, 3) := by decide +kernel
theorem dX11_enter_27 : decode cX11_enter 27 = .ok (.sipush 200, 3) := by decide +kernel
theorem dX11_enter_30 : decode cX11_enter 30 = .ok (.if_icmp .ne 6, 3) := by decide +kernel
theorem dX11_enter_33 : decode cX11_enter 33 = .ok (.bipush (-3), 2) := by decide +kernel
theorem dX11_enter_35 : decode cX11_enter 35 = .ok (.ireturn, 1) := by decide +kernel
theorem dX11_enter_36 : decode cX11_enter 36 = .ok (.aload_n 0, 1) := by decide +kernel
theorem dX11_enter_37 : decode cX11_enter 37 = .ok (.getfield 70, 3) := by decide +kernel
theorem dX11_enter_40 : decode cX11_enter 40 = .ok (.aload_n 0, 1) := by decide +kernel
theorem dX11_enter_41 : decode cX11_enter 41 = .ok (.getfield 190, 3) := by decide +kernel
theorem dX11_enter_44 : decode cX11_enter 44 = .ok (.iload_n 1, 1) := by decide +kernel
theorem dX11_enter_45 : decode cX11_enter 45 = .ok (.iastore, 1) := by decide +kernel
theorem dX11_enter_46 : decode cX11_enter 46 = .ok (.aload_n 0, 1) := by decide +kernel
theorem dX11_enter_47 : decode cX11_enter 47 = .ok (.getfield 73, 3) := by decide +kernel
theorem dX11_enter_50 : decode cX11_enter 50 = .ok (.aload_n 0, 1) := by decide +kernel
theorem dX11_enter_51 : decode cX11_enter 51 = .ok (.getfield 190, 3) := by decide +kernel
theorem dX11_enter_54 : decode cX11_enter 54 = .ok (.iload_n 2, 1) := by decide +kernel
theorem dX11_enter_55 : decode cX11_enter 55 = .ok (.iastore, 1) := by decide +kernel
theorem dX11_enter_56 : decode cX11_enter 56 = .ok (.aload_n 0, 1) := by decide +kernel
theorem dX11_enter_57 : decode cX11_enter 57 = .ok (.getfield 76, 3) := by decide +kernel
theorem dX11_enter_60 : decode cX11_enter 60 = .ok (.aload_n 0, 1) := by decide +kernel
theorem dX11_enter_61 : decode cX11_enter 61 = .ok (.getfield 190, 3) := by decide +kernel
theorem dX11_enter_64 : decode cX11_enter 64 = .ok (.iconst 1, 1) := by decide +kernel
theorem dX11_enter_65 : decode cX11_enter 65 = .ok (.bastore, 1) := by decide +kernel
theorem dX11_enter_66 : decode cX11_enter 66 = .ok (.aload_n 0, 1) := by decide +kernel
theorem dX11_enter_67 : decode cX11_enter 67 = .ok (.getfield 44, 3) := by decide +kernel
theorem dX11_enter_70 : decode cX11_enter 70 = .ok (.aload_n 0, 1) := by decide +kernel
theorem dX11_enter_71 : decode cX11_enter 71 = .ok (.getfield 190, 3) := by decide +kernel
theorem dX11_enter_74 : decode cX11_enter 74 = .ok (.aload_n 0, 1) := by decide +kernel
theorem dX11_enter_75 : decode cX11_enter 75 = .ok (.getfield 44, 3) := by decide +kernel
theorem dX11_enter_78 : decode cX11_enter 78 = .ok (.sipush 200, 3) := by decide +kernel
theorem dX11_enter_81 : decode cX11_enter 81 = .ok (.iaload, 1) := by decide +kernel
theorem dX11_enter_82 : decode cX11_enter 82 = .ok (.iastore, 1) := by decide +kernel
theorem dX11_enter_83 : decode cX11_enter 83 = .ok (.iconst 0, 1) := by decide +kernel
theorem dX11_enter_84 : decode cX11_enter 84 = .ok (.istore 4, 2) := by decide +kernel
theorem dX11_enter_86 : decode cX11_enter 86 = .ok (.iload 4, 2) := by decide +kernel
theorem dX11_enter_88 : decode cX11_enter 88 = .ok (.bipush 40, 2) := by decide +kernel
theorem dX11_enter_90 : decode cX11_enter 90 = .ok (.if_icmp .ge 35, 3) := by decide +kernel
theorem dX11_enter_93 : decode cX11_enter 93 = .ok (.aload_n 0, 1) := by decide +kernel
theorem dX11_enter_94 : decode cX11_enter 94 = .ok (.getfield 41, 3) := by decide +kernel
theorem dX11_enter_97 : decode cX11_enter 97 = .ok (.bipush 40, 2) := by decide +kernel
theorem dX11_enter_99 : decode cX11_enter 99 = .ok (.aload_n 0, 1) := by decide +kernel
theorem dX11_enter_100 : decode cX11_enter 100 = .ok (.getfield 190, 3) := by decide +kernel
theorem dX11_enter_103 : decode cX11_enter 103 = .ok (.imul, 1) := by decide +kernel
theorem dX11_enter_104 : decode cX11_enter 104 = .ok (.iload 4, 2) := by decide +kernel
theorem dX11_enter_106 : decode cX11_enter 106 = .ok (.iadd, 1) := by decide +kernel
theorem dX11_enter_107 : decode cX11_enter 107 = .ok (.aload_n 0, 1) := by decide +kernel
theorem dX11_enter_108 : decode cX11_enter 108 = .ok (.getfield 41, 3) := by decide +kernel
theorem dX11_enter_111 : decode cX11_enter 111 = .ok (.sipush 8000, 3) := by decide +kernel
theorem dX11_enter_114 : decode cX11_enter 114 = .ok (.iload 4, 2) := by decide +kernel
theorem dX11_enter_116 : decode cX11_enter 116 = .ok (.iadd, 1) := by decide +kernel
theorem dX11_enter_117 : decode cX11_enter 117 = .ok (.baload, 1) := by decide +kernel
theorem dX11_enter_118 : decode cX11_enter 118 = .ok (.bastore, 1) := by decide +kernel
theorem dX11_enter_119 : decode cX11_enter 119 = .ok (.iinc 4 1, 3) := by decide +kernel
theorem dX11_enter_122 : decode cX11_enter 122 = .ok (.goto (-36), 3) := by decide +kernel
theorem dX11_enter_125 : decode cX11_enter 125 = .ok (.aload_n 0, 1) := by decide +kernel
theorem dX11_enter_126 : decode cX11_enter 126 = .ok (.dup, 1) := by decide +kernel
theorem dX11_enter_127 : decode cX11_enter 127 = .ok (.getfield 190, 3) := by decide +kernel
theorem dX11_enter_130 : decode cX11_enter 130 = .ok (.iconst 1, 1) := by decide +kernel
theorem dX11_enter_131 : decode cX11_enter 131 = .ok (.iadd, 1) := by decide +kernel
theorem dX11_enter_132 : decode cX11_enter 132 = .ok (.putfield 190, 3) := by decide +kernel
theorem dX11_enter_135 : decode cX11_enter 135 = .ok (.aload_n 0, 1) := by decide +kernel
theorem dX11_enter_136 : decode cX11_enter 136 = .ok (.getfield 190, 3) := by decide +kernel
theorem dX11_enter_139 : decode cX11_enter 139 = .ok (.iconst 1, 1) := by decide +kernel
theorem dX11_enter_140 : decode cX11_enter 140 = .ok (.isub, 1) := by decide +kernel
theorem dX11_enter_141 : decode cX11_enter 141 = .ok (.ireturn, 1) := by decide +kernel
theorem dX11_isEntry_0 : decode cX11_isEntry 0 = .ok (.iload_n 1, 1) := by decide +kernel
theorem dX11_isEntry_1 : decode cX11_isEntry 1 = .ok (.iconst 0, 1) := by decide +kernel
theorem dX11_isEntry_2 : decode cX11_isEntry 2 = .ok (.aload_n 0, 1) := by decide +kernel
theorem dX11_isEntry_3 : decode cX11_isEntry 3 = .ok (.getfield 190, 3) := by decide +kernel
theorem dX11_isEntry_6 : decode cX11_isEntry 6 = .ok (.iconst 1, 1) := by decide +kernel
theorem dX11_isEntry_7 : decode cX11_isEntry 7 = .ok (.isub, 1) := by decide +kernel
theorem dX11_isEntry_8 : decode cX11_isEntry 8 = .ok (.invokestatic 106, 3) := by decide +kernel
theorem dX11_isEntry_11 : decode cX11_isEntry 11 = .ok (.ifCond .eq 16, 3) := by decide +kernel
theorem dX11_isEntry_14 : decode cX11_isEntry 14 = .ok (.aload_n 0, 1) := by decide +kernel
theorem dX11_isEntry_15 : decode cX11_isEntry 15 = .ok (.getfield 76, 3) := by decide +kernel
theorem dX11_isEntry_18 : decode cX11_isEntry 18 = .ok (.iload_n 1, 1) := by decide +kernel
theorem dX11_isEntry_19 : decode cX11_isEntry 19 = .ok (.baload, 1) := by decide +kernel
theorem dX11_isEntry_20 : decode cX11_isEntry 20 = .ok (.ifCond .eq 7, 3) := by decide +kernel
theorem dX11_isEntry_23 : decode cX11_isEntry 23 = .ok (.iconst 1, 1) := by decide +kernel
theorem dX11_isEntry_24 : decode cX11_isEntry 24 = .ok (.goto 4, 3) := by decide +kernel
theorem dX11_isEntry_27 : decode cX11_isEntry 27 = .ok (.iconst 0, 1) := by decide +kernel
theorem dX11_isEntry_28 : decode cX11_isEntry 28 = .ok (.ireturn, 1) := by decide +kernel
theorem dX11_strike_0 : decode cX11_strike 0 = .ok (.aload_n 0, 1) := by decide +kernel
theorem dX11_strike_1 : decode cX11_strike 1 = .ok (.iload_n 1, 1) := by decide +kernel
theorem dX11_strike_2 : decode cX11_strike 2 = .ok (.invokevirtual 205, 3) := by decide +kernel
theorem dX11_strike_5 : decode cX11_strike 5 = .ok (.ifCond .ne 6, 3) := by decide +kernel
theorem dX11_strike_8 : decode cX11_strike 8 = .ok (.bipush (-2), 2) := by decide +kernel
theorem dX11_strike_10 : decode cX11_strike 10 = .ok (.ireturn, 1) := by decide +kernel
theorem dX11_strike_11 : decode cX11_strike 11 = .ok (.aload_n 0, 1) := by decide +kernel
theorem dX11_strike_12 : decode cX11_strike 12 = .ok (.getfield 76, 3) := by decide +kernel
theorem dX11_strike_15 : decode cX11_strike 15 = .ok (.iload_n 1, 1) := by decide +kernel
theorem dX11_strike_16 : decode cX11_strike 16 = .ok (.iconst 0, 1) := by decide +kernel
theorem dX11_strike_17 : decode cX11_strike 17 = .ok (.bastore, 1) := by decide +kernel
theorem dX11_strike_18 : decode cX11_strike 18 = .ok (.iconst 1, 1) := by decide +kernel
theorem dX11_strike_19 : decode cX11_strike 19 = .ok (.ireturn, 1) := by decide +kernel
theorem dX11_entry_0 : decode cX11_entry 0 = .ok (.iload_n 1, 1) := by decide +kernel
theorem dX11_entry_1 : decode cX11_entry 1 = .ok (.iconst 0, 1) := by decide +kernel
theorem dX11_entry_2 : decode cX11_entry 2 = .ok (.aload_n 0, 1) := by decide +kernel
theorem dX11_entry_3 : decode cX11_entry 3 = .ok (.getfield 190, 3) := by decide +kernel
theorem dX11_entry_6 : decode cX11_entry 6 = .ok (.iconst 1, 1) := by decide +kernel
theorem dX11_entry_7 : decode cX11_entry 7 = .ok (.isub, 1) := by decide +kernel
theorem dX11_entry_8 : decode cX11_entry 8 = .ok (.invokestatic 106, 3) := by decide +kernel
theorem dX11_entry_11 : decode cX11_entry 11 = .ok (.ifCond .ne 5, 3) := by decide +kernel
theorem dX11_entry_14 : decode cX11_entry 14 = .ok (.iconst (-1), 1) := by decide +kernel
theorem dX11_entry_15 : decode cX11_entry 15 = .ok (.ireturn, 1) := by decide +kernel
theorem dX11_entry_16 : decode cX11_entry 16 = .ok (.iload_n 2, 1) := by decide +kernel
theorem dX11_entry_17 : decode cX11_entry 17 = .ok (.tableswitch 81 0 4 #[35, 42, 49, 56, 66], 35) := by decide +kernel
theorem dX11_entry_52 : decode cX11_entry 52 = .ok (.aload_n 0, 1) := by decide +kernel
theorem dX11_entry_53 : decode cX11_entry 53 = .ok (.getfield 70, 3) := by decide +kernel
theorem dX11_entry_56 : decode cX11_entry 56 = .ok (.iload_n 1, 1) := by decide +kernel
theorem dX11_entry_57 : decode cX11_entry 57 = .ok (.iaload, 1) := by decide +kernel
theorem dX11_entry_58 : decode cX11_entry 58 = .ok (.ireturn, 1) := by decide +kernel
theorem dX11_entry_59 : decode cX11_entry 59 = .ok (.aload_n 0, 1) := by decide +kernel
theorem dX11_entry_60 : decode cX11_entry 60 = .ok (.getfield 73, 3) := by decide +kernel
theorem dX11_entry_63 : decode cX11_entry 63 = .ok (.iload_n 1, 1) := by decide +kernel
theorem dX11_entry_64 : decode cX11_entry 64 = .ok (.iaload, 1) := by decide +kernel
theorem dX11_entry_65 : decode cX11_entry 65 = .ok (.ireturn, 1) := by decide +kernel
theorem dX11_entry_66 : decode cX11_entry 66 = .ok (.aload_n 0, 1) := by decide +kernel
theorem dX11_entry_67 : decode cX11_entry 67 = .ok (.getfield 44, 3) := by decide +kernel
theorem dX11_entry_70 : decode cX11_entry 70 = .ok (.iload_n 1, 1) := by decide +kernel
theorem dX11_entry_71 : decode cX11_entry 71 = .ok (.iaload, 1) := by decide +kernel
theorem dX11_entry_72 : decode cX11_entry 72 = .ok (.ireturn, 1) := by decide +kernel
theorem dX11_entry_73 : decode cX11_entry 73 = .ok (.aload_n 0, 1) := by decide +kernel
theorem dX11_entry_74 : decode cX11_entry 74 = .ok (.iload_n 1, 1) := by decide +kernel
theorem dX11_entry_75 : decode cX11_entry 75 = .ok (.aload_n 0, 1) := by decide +kernel
theorem dX11_entry_76 : decode cX11_entry 76 = .ok (.getfield 54, 3) := by decide +kernel
theorem dX11_entry_79 : decode cX11_entry 79 = .ok (.invokevirtual 162, 3) := by decide +kernel
theorem dX11_entry_82 : decode cX11_entry 82 = .ok (.ireturn, 1) := by decide +kernel
theorem dX11_entry_83 : decode cX11_entry 83 = .ok (.aload_n 0, 1) := by decide +kernel
theorem dX11_entry_84 : decode cX11_entry 84 = .ok (.getfield 76, 3) := by decide +kernel
theorem dX11_entry_87 : decode cX11_entry 87 = .ok (.iload_n 1, 1) := by decide +kernel
theorem dX11_entry_88 : decode cX11_entry 88 = .ok (.baload, 1) := by decide +kernel
theorem dX11_entry_89 : decode cX11_entry 89 = .ok (.ifCond .eq 7, 3) := by decide +kernel
theorem dX11_entry_92 : decode cX11_entry 92 = .ok (.iconst 1, 1) := by decide +kernel
theorem dX11_entry_93 : decode cX11_entry 93 = .ok (.goto 4, 3) := by decide +kernel
theorem dX11_entry_96 : decode cX11_entry 96 = .ok (.iconst 0, 1) := by decide +kernel
theorem dX11_entry_97 : decode cX11_entry 97 = .ok (.ireturn, 1) := by decide +kernel
theorem dX11_entry_98 : decode cX11_entry 98 = .ok (.iload_n 2, 1) := by decide +kernel
theorem dX11_entry_99 : decode cX11_entry 99 = .ok (.bipush 20, 2) := by decide +kernel
theorem dX11_entry_101 : decode cX11_entry 101 = .ok (.bipush 19, 2) := by decide +kernel
theorem dX11_entry_103 : decode cX11_entry 103 = .ok (.aload_n 0, 1) := by decide +kernel
theorem dX11_entry_104 : decode cX11_entry 104 = .ok (.getfield 44, 3) := by decide +kernel
theorem dX11_entry_107 : decode cX11_entry 107 = .ok (.iload_n 1, 1) := by decide +kernel
theorem dX11_entry_108 : decode cX11_entry 108 = .ok (.iaload, 1) := by decide +kernel
theorem dX11_entry_109 : decode cX11_entry 109 = .ok (.iadd, 1) := by decide +kernel
theorem dX11_entry_110 : decode cX11_entry 110 = .ok (.invokestatic 106, 3) := by decide +kernel
theorem dX11_entry_113 : decode cX11_entry 113 = .ok (.ifCond .eq 20, 3) := by decide +kernel
theorem dX11_entry_116 : decode cX11_entry 116 = .ok (.aload_n 0, 1) := by decide +kernel
theorem dX11_entry_117 : decode cX11_entry 117 = .ok (.getfield 41, 3) := by decide +kernel
theorem dX11_entry_120 : decode cX11_entry 120 = .ok (.bipush 40, 2) := by decide +kernel
theorem dX11_entry_122 : decode cX11_entry 122 = .ok (.iload_n 1, 1) := by decide +kernel
theorem dX11_entry_123 : decode cX11_entry 123 = .ok (.imul, 1) := by decide +kernel
theorem dX11_entry_124 : decode cX11_entry 124 = .ok (.iload_n 2, 1) := by decide +kernel
theorem dX11_entry_125 : decode cX11_entry 125 = .ok (.iadd, 1) := by decide +kernel
theorem dX11_entry_126 : decode cX11_entry 126 = .ok (.bipush 20, 2) := by decide +kernel
theorem dX11_entry_128 : decode cX11_entry 128 = .ok (.isub, 1) := by decide +kernel
theorem dX11_entry_129 : decode cX11_entry 129 = .ok (.baload, 1) := by decide +kernel
theorem dX11_entry_130 : decode cX11_entry 130 = .ok (.goto 4, 3) := by decide +kernel
theorem dX11_entry_133 : decode cX11_entry 133 = .ok (.iconst (-1), 1) := by decide +kernel
theorem dX11_entry_134 : decode cX11_entry 134 = .ok (.ireturn, 1) := by decide +kernel
theorem dX11_far_0 : decode cX11_far 0 = .ok (.aload_n 0, 1) := by decide +kernel
theorem dX11_far_1 : decode cX11_far 1 = .ok (.iload_n 1, 1) := by decide +kernel
theorem dX11_far_2 : decode cX11_far 2 = .ok (.invokevirtual 205, 3) := by decide +kernel
theorem dX11_far_5 : decode cX11_far 5 = .ok (.ifCond .ne 6, 3) := by decide +kernel
theorem dX11_far_8 : decode cX11_far 8 = .ok (.bipush (-2), 2) := by decide +kernel
theorem dX11_far_10 : decode cX11_far 10 = .ok (.ireturn, 1) := by decide +kernel
theorem dX11_far_11 : decode cX11_far 11 = .ok (.aload_n 0, 1) := by decide +kernel
theorem dX11_far_12 : decode cX11_far 12 = .ok (.getfield 158, 3) := by decide +kernel
theorem dX11_far_15 : decode cX11_far 15 = .ok (.ifCond .ne 5, 3) := by decide +kernel
theorem dX11_far_18 : decode cX11_far 18 = .ok (.iconst (-1), 1) := by decide +kernel
theorem dX11_far_19 : decode cX11_far 19 = .ok (.ireturn, 1) := by decide +kernel
theorem dX11_far_20 : decode cX11_far 20 = .ok (.aload_n 0, 1) := by decide +kernel
theorem dX11_far_21 : decode cX11_far 21 = .ok (.sipush 200, 3) := by decide +kernel
theorem dX11_far_24 : decode cX11_far 24 = .ok (.iload_n 1, 1) := by decide +kernel
theorem dX11_far_25 : decode cX11_far 25 = .ok (.invokevirtual 199, 3) := by decide +kernel
theorem dX11_far_28 : decode cX11_far 28 = .ok (.istore_n 2, 1) := by decide +kernel
theorem dX11_far_29 : decode cX11_far 29 = .ok (.iload_n 2, 1) := by decide +kernel
theorem dX11_far_30 : decode cX11_far 30 = .ok (.ldc 134, 2) := by decide +kernel
theorem dX11_far_32 : decode cX11_far 32 = .ok (.if_icmp .lt 7, 3) := by decide +kernel
theorem dX11_far_35 : decode cX11_far 35 = .ok (.iconst (-1), 1) := by decide +kernel
theorem dX11_far_36 : decode cX11_far 36 = .ok (.goto 4, 3) := by decide +kernel
theorem dX11_far_39 : decode cX11_far 39 = .ok (.iload_n 2, 1) := by decide +kernel
theorem dX11_far_40 : decode cX11_far 40 = .ok (.ireturn, 1) := by decide +kernel
theorem dX11_near_0 : decode cX11_near 0 = .ok (.iload_n 1, 1) := by decide +kernel
theorem dX11_near_1 : decode cX11_near 1 = .ok (.invokestatic 187, 3) := by decide +kernel
theorem dX11_near_4 : decode cX11_near 4 = .ok (.ifCond .eq 14, 3) := by decide +kernel
theorem dX11_near_7 : decode cX11_near 7 = .ok (.iload_n 2, 1) := by decide +kernel
theorem dX11_near_8 : decode cX11_near 8 = .ok (.iconst 0, 1) := by decide +kernel
theorem dX11_near_9 : decode cX11_near 9 = .ok (.sipush 200, 3) := by decide +kernel
theorem dX11_near_12 : decode cX11_near 12 = .ok (.invokestatic 106, 3) := by decide +kernel
theorem dX11_near_15 : decode cX11_near 15 = .ok (.ifCond .ne 6, 3) := by decide +kernel
theorem dX11_near_18 : decode cX11_near 18 = .ok (.bipush (-2), 2) := by decide +kernel
theorem dX11_near_20 : decode cX11_near 20 = .ok (.ireturn, 1) := by decide +kernel
theorem dX11_near_21 : decode cX11_near 21 = .ok (.aload_n 0, 1) := by decide +kernel
theorem dX11_near_22 : decode cX11_near 22 = .ok (.getfield 158, 3) := by decide +kernel
theorem dX11_near_25 : decode cX11_near 25 = .ok (.ifCond .ne 5, 3) := by decide +kernel
theorem dX11_near_28 : decode cX11_near 28 = .ok (.iconst (-1), 1) := by decide +kernel
theorem dX11_near_29 : decode cX11_near 29 = .ok (.ireturn, 1) := by decide +kernel
theorem dX11_near_30 : decode cX11_near 30 = .ok (.aload_n 0, 1) := by decide +kernel
theorem dX11_near_31 : decode cX11_near 31 = .ok (.iconst 0, 1) := by decide +kernel
theorem dX11_near_32 : decode cX11_near 32 = .ok (.putfield 208, 3) := by decide +kernel
theorem dX11_near_35 : decode cX11_near 35 = .ok (.iconst 0, 1) := by decide +kernel
theorem dX11_near_36 : decode cX11_near 36 = .ok (.istore_n 3, 1) := by decide +kernel
theorem dX11_near_37 : decode cX11_near 37 = .ok (.iload_n 3, 1) := by decide +kernel
theorem dX11_near_38 : decode cX11_near 38 = .ok (.aload_n 0, 1) := by decide +kernel
theorem dX11_near_39 : decode cX11_near 39 = .ok (.getfield 190, 3) := by decide +kernel
theorem dX11_near_42 : decode cX11_near 42 = .ok (.if_icmp .ge 130, 3) := by decide +kernel
theorem dX11_near_45 : decode cX11_near 45 = .ok (.aload_n 0, 1) := by decide +kernel
theorem dX11_near_46 : decode cX11_near 46 = .ok (.iload_n 3, 1) := by decide +kernel
theorem dX11_near_47 : decode cX11_near 47 = .ok (.iload_n 1, 1) := by decide +kernel
theorem dX11_near_48 : decode cX11_near 48 = .ok (.invokevirtual 193, 3) := by decide +kernel
theorem dX11_near_51 : decode cX11_near 51 = .ok (.ifCond .ne 6, 3) := by decide +kernel
theorem dX11_near_54 : decode cX11_near 54 = .ok (.goto 112, 3) := by decide +kernel
theorem dX11_near_57 : decode cX11_near 57 = .ok (.aload_n 0, 1) := by decide +kernel
theorem dX11_near_58 : decode cX11_near 58 = .ok (.sipush 200, 3) := by decide +kernel
theorem dX11_near_61 : decode cX11_near 61 = .ok (.iload_n 3, 1) := by decide +kernel
theorem dX11_near_62 : decode cX11_near 62 = .ok (.invokevirtual 199, 3) := by decide +kernel
theorem dX11_near_65 : decode cX11_near 65 = .ok (.istore 4, 2) := by decide +kernel
theorem dX11_near_67 : decode cX11_near 67 = .ok (.iload 4, 2) := by decide +kernel
theorem dX11_near_69 : decode cX11_near 69 = .ok (.iload_n 2, 1) := by decide +kernel
theorem dX11_near_70 : decode cX11_near 70 = .ok (.if_icmp .le 6, 3) := by decide +kernel
theorem dX11_near_73 : decode cX11_near 73 = .ok (.goto 93, 3) := by decide +kernel
theorem dX11_near_76 : decode cX11_near 76 = .ok (.aload_n 0, 1) := by decide +kernel
theorem dX11_near_77 : decode cX11_near 77 = .ok (.getfield 208, 3) := by decide +kernel
theorem dX11_near_80 : decode cX11_near 80 = .ok (.istore 5, 2) := by decide +kernel
theorem dX11_near_82 : decode cX11_near 82 = .ok (.iload 5, 2) := by decide +kernel
theorem dX11_near_84 : decode cX11_near 84 = .ok (.ifCond .le 55, 3) := by decide +kernel
theorem dX11_near_87 : decode cX11_near 87 = .ok (.aload_n 0, 1) := by decide +kernel
theorem dX11_near_88 : decode cX11_near 88 = .ok (.getfield 82, 3) := by decide +kernel
theorem dX11_near_91 : decode cX11_near 91 = .ok (.iload 5, 2) := by decide +kernel
theorem dX11_near_93 : decode cX11_near 93 = .ok (.iconst 1, 1) := by decide +kernel
theorem dX11_near_94 : decode cX11_near 94 = .ok (.isub, 1) := by decide +kernel
theorem dX11_near_95 : decode cX11_near 95 = .ok (.iaload, 1) := by decide +kernel
theorem dX11_near_96 : decode cX11_near 96 = .ok (.iload 4, 2) := by decide +kernel
theorem dX11_near_98 : decode cX11_near 98 = .ok (.if_icmp .le 41, 3) := by decide +kernel
theorem dX11_near_101 : decode cX11_near 101 = .ok (.aload_n 0, 1) := by decide +kernel
theorem dX11_near_102 : decode cX11_near 102 = .ok (.getfield 79, 3) := by decide +kernel
theorem dX11_near_105 : decode cX11_near 105 = .ok (.iload 5, 2) := by decide +kernel
theorem dX11_near_107 : decode cX11_near 107 = .ok (.aload_n 0, 1) := by decide +kernel
theorem dX11_near_108 : decode cX11_near 108 = .ok (.getfield 79, 3) := by decide +kernel
theorem dX11_near_111 : decode cX11_near 111 = .ok (.iload 5, 2) := by decide +kernel
theorem dX11_near_113 : decode cX11_near 113 = .ok (.iconst 1, 1) := by decide +kernel
theorem dX11_near_114 : decode cX11_near 114 = .ok (.isub, 1) := by decide +kernel
theorem dX11_near_115 : decode cX11_near 115 = .ok (.iaload, 1) := by decide +kernel
theorem dX11_near_116 : decode cX11_near 116 = .ok (.iastore, 1) := by decide +kernel
theorem dX11_near_117 : decode cX11_near 117 = .ok (.aload_n 0, 1) := by decide +kernel
theorem dX11_near_118 : decode cX11_near 118 = .ok (.getfield 82, 3) := by decide +kernel
theorem dX11_near_121 : decode cX11_near 121 = .ok (.iload 5, 2) := by decide +kernel
theorem dX11_near_123 : decode cX11_near 123 = .ok (.aload_n 0, 1) := by decide +kernel
theorem dX11_near_124 : decode cX11_near 124 = .ok (.getfield 82, 3) := by decide +kernel
theorem dX11_near_127 : decode cX11_near 127 = .ok (.iload 5, 2) := by decide +kernel
theorem dX11_near_129 : decode cX11_near 129 = .ok (.iconst 1, 1) := by decide +kernel
theorem dX11_near_130 : decode cX11_near 130 = .ok (.isub, 1) := by decide +kernel
theorem dX11_near_131 : decode cX11_near 131 = .ok (.iaload, 1) := by decide +kernel
theorem dX11_near_132 : decode cX11_near 132 = .ok (.iastore, 1) := by decide +kernel
theorem dX11_near_133 : decode cX11_near 133 = .ok (.iinc 5 (-1), 3) := by decide +kernel
theorem dX11_near_136 : decode cX11_near 136 = .ok (.goto (-54), 3) := by decide +kernel
theorem dX11_near_139 : decode cX11_near 139 = .ok (.aload_n 0, 1) := by decide +kernel
theorem dX11_near_140 : decode cX11_near 140 = .ok (.getfield 79, 3) := by decide +kernel
theorem dX11_near_143 : decode cX11_near 143 = .ok (.iload 5, 2) := by decide +kernel
theorem dX11_near_145 : decode cX11_near 145 = .ok (.iload_n 3, 1) := by decide +kernel
theorem dX11_near_146 : decode cX11_near 146 = .ok (.iastore, 1) := by decide +kernel
theorem dX11_near_147 : decode cX11_near 147 = .ok (.aload_n 0, 1) := by decide +kernel
theorem dX11_near_148 : decode cX11_near 148 = .ok (.getfield 82, 3) := by decide +kernel
theorem dX11_near_151 : decode cX11_near 151 = .ok (.iload 5, 2) := by decide +kernel
theorem dX11_near_153 : decode cX11_near 153 = .ok (.iload 4, 2) := by decide +kernel
theorem dX11_near_155 : decode cX11_near 155 = .ok (.iastore, 1) := by decide +kernel
theorem dX11_near_156 : decode cX11_near 156 = .ok (.aload_n 0, 1) := by decide +kernel
theorem dX11_near_157 : decode cX11_near 157 = .ok (.dup, 1) := by decide +kernel
theorem dX11_near_158 : decode cX11_near 158 = .ok (.getfield 208, 3) := by decide +kernel
theorem dX11_near_161 : decode cX11_near 161 = .ok (.iconst 1, 1) := by decide +kernel
theorem dX11_near_162 : decode cX11_near 162 = .ok (.iadd, 1) := by decide +kernel
theorem dX11_near_163 : decode cX11_near 163 = .ok (.putfield 208, 3) := by decide +kernel
theorem dX11_near_166 : decode cX11_near 166 = .ok (.iinc 3 1, 3) := by decide +kernel
theorem dX11_near_169 : decode cX11_near 169 = .ok (.goto (-132), 3) := by decide +kernel
theorem dX11_near_172 : decode cX11_near 172 = .ok (.aload_n 0, 1) := by decide +kernel
theorem dX11_near_173 : decode cX11_near 173 = .ok (.getfield 208, 3) := by decide +kernel
theorem dX11_near_176 : decode cX11_near 176 = .ok (.ireturn, 1) := by decide +kernel
theorem dX11_nearest_0 : decode cX11_nearest 0 = .ok (.iload_n 1, 1) := by decide +kernel
theorem dX11_nearest_1 : decode cX11_nearest 1 = .ok (.iconst 0, 1) := by decide +kernel
theorem dX11_nearest_2 : decode cX11_nearest 2 = .ok (.aload_n 0, 1) := by decide +kernel
theorem dX11_nearest_3 : decode cX11_nearest 3 = .ok (.getfield 208, 3) := by decide +kernel
theorem dX11_nearest_6 : decode cX11_nearest 6 = .ok (.iconst 1, 1) := by decide +kernel
theorem dX11_nearest_7 : decode cX11_nearest 7 = .ok (.isub, 1) := by decide +kernel
theorem dX11_nearest_8 : decode cX11_nearest 8 = .ok (.invokestatic 106, 3) := by decide +kernel
theorem dX11_nearest_11 : decode cX11_nearest 11 = .ok (.ifCond .ne 5, 3) := by decide +kernel
theorem dX11_nearest_14 : decode cX11_nearest 14 = .ok (.iconst (-1), 1) := by decide +kernel
theorem dX11_nearest_15 : decode cX11_nearest 15 = .ok (.ireturn, 1) := by decide +kernel
theorem dX11_nearest_16 : decode cX11_nearest 16 = .ok (.iload_n 2, 1) := by decide +kernel
theorem dX11_nearest_17 : decode cX11_nearest 17 = .ok (.ifCond .ne 12, 3) := by decide +kernel
theorem dX11_nearest_20 : decode cX11_nearest 20 = .ok (.aload_n 0, 1) := by decide +kernel
theorem dX11_nearest_21 : decode cX11_nearest 21 = .ok (.getfield 79, 3) := by decide +kernel
theorem dX11_nearest_24 : decode cX11_nearest 24 = .ok (.iload_n 1, 1) := by decide +kernel
theorem dX11_nearest_25 : decode cX11_nearest 25 = .ok (.iaload, 1) := by decide +kernel
theorem dX11_nearest_26 : decode cX11_nearest 26 = .ok (.goto 18, 3) := by decide +kernel
theorem dX11_nearest_29 : decode cX11_nearest 29 = .ok (.iload_n 2, 1) := by decide +kernel
theorem dX11_nearest_30 : decode cX11_nearest 30 = .ok (.iconst 1, 1) := by decide +kernel
theorem dX11_nearest_31 : decode cX11_nearest 31 = .ok (.if_icmp .ne 12, 3) := by decide +kernel
theorem dX11_nearest_34 : decode cX11_nearest 34 = .ok (.aload_n 0, 1) := by decide +kernel
theorem dX11_nearest_35 : decode cX11_nearest 35 = .ok (.getfield 82, 3) := by decide +kernel
theorem dX11_nearest_38 : decode cX11_nearest 38 = .ok (.iload_n 1, 1) := by decide +kernel
theorem dX11_nearest_39 : decode cX11_nearest 39 = .ok (.iaload, 1) := by decide +kernel
theorem dX11_nearest_40 : decode cX11_nearest 40 = .ok (.goto 4, 3) := by decide +kernel
theorem dX11_nearest_43 : decode cX11_nearest 43 = .ok (.iconst (-1), 1) := by decide +kernel
theorem dX11_nearest_44 : decode cX11_nearest 44 = .ok (.ireturn, 1) := by decide +kernel
theorem dX11_ways_0 : decode cX11_ways 0 = .ok (.aload_n 0, 1) := by decide +kernel
theorem dX11_ways_1 : decode cX11_ways 1 = .ok (.iload_n 1, 1) := by decide +kernel
theorem dX11_ways_2 : decode cX11_ways 2 = .ok (.invokevirtual 205, 3) := by decide +kernel
theorem dX11_ways_5 : decode cX11_ways 5 = .ok (.ifCond .ne 6, 3) := by decide +kernel
theorem dX11_ways_8 : decode cX11_ways 8 = .ok (.bipush (-2), 2) := by decide +kernel
theorem dX11_ways_10 : decode cX11_ways 10 = .ok (.ireturn, 1) := by decide +kernel
theorem dX11_ways_11 : decode cX11_ways 11 = .ok (.aload_n 0, 1) := by decide +kernel
theorem dX11_ways_12 : decode cX11_ways 12 = .ok (.getfield 158, 3) := by decide +kernel
theorem dX11_ways_15 : decode cX11_ways 15 = .ok (.ifCond .eq 16, 3) := by decide +kernel
theorem dX11_ways_18 : decode cX11_ways 18 = .ok (.aload_n 0, 1) := by decide +kernel
theorem dX11_ways_19 : decode cX11_ways 19 = .ok (.sipush 200, 3) := by decide +kernel
theorem dX11_ways_22 : decode cX11_ways 22 = .ok (.iload_n 1, 1) := by decide +kernel
theorem dX11_ways_23 : decode cX11_ways 23 = .ok (.invokevirtual 199, 3) := by decide +kernel
theorem dX11_ways_26 : decode cX11_ways 26 = .ok (.ldc 134, 2) := by decide +kernel
theorem dX11_ways_28 : decode cX11_ways 28 = .ok (.if_icmp .lt 5, 3) := by decide +kernel
theorem dX11_ways_31 : decode cX11_ways 31 = .ok (.iconst (-1), 1) := by decide +kernel
theorem dX11_ways_32 : decode cX11_ways 32 = .ok (.ireturn, 1) := by decide +kernel
theorem dX11_ways_33 : decode cX11_ways 33 = .ok (.aload_n 0, 1) := by decide +kernel
theorem dX11_ways_34 : decode cX11_ways 34 = .ok (.iconst 0, 1) := by decide +kernel
theorem dX11_ways_35 : decode cX11_ways 35 = .ok (.putfield 211, 3) := by decide +kernel
theorem dX11_ways_38 : decode cX11_ways 38 = .ok (.iconst 0, 1) := by decide +kernel
theorem dX11_ways_39 : decode cX11_ways 39 = .ok (.istore_n 2, 1) := by decide +kernel
theorem dX11_ways_40 : decode cX11_ways 40 = .ok (.iconst 0, 1) := by decide +kernel
theorem dX11_ways_41 : decode cX11_ways 41 = .ok (.istore_n 3, 1) := by decide +kernel
theorem dX11_ways_42 : decode cX11_ways 42 = .ok (.iload_n 2, 1) := by decide +kernel
theorem dX11_ways_43 : decode cX11_ways 43 = .ok (.aload_n 0, 1) := by decide +kernel
theorem dX11_ways_44 : decode cX11_ways 44 = .ok (.getfield 177, 3) := by decide +kernel
theorem dX11_ways_47 : decode cX11_ways 47 = .ok (.if_icmp .lt 11, 3) := by decide +kernel
theorem dX11_ways_50 : decode cX11_ways 50 = .ok (.iload_n 3, 1) := by decide +kernel
theorem dX11_ways_51 : decode cX11_ways 51 = .ok (.aload_n 0, 1) := by decide +kernel
theorem dX11_ways_52 : decode cX11_ways 52 = .ok (.getfield 180, 3) := by decide +kernel
theorem dX11_ways_55 : decode cX11_ways 55 = .ok (.if_icmp .ge 207, 3) := by decide +kernel
theorem dX11_ways_58 : decode cX11_ways 58 = .ok (.aload_n 0, 1) := by decide +kernel
theorem dX11_ways_59 : decode cX11_ways 59 = .ok (.getfield 57, 3) := by decide +kernel
theorem dX11_ways_62 : decode cX11_ways 62 = .ok (.bipush 41, 2) := by decide +kernel
theorem dX11_ways_64 : decode cX11_ways 64 = .ok (.iload_n 2, 1) := by decide +kernel
theorem dX11_ways_65 : decode cX11_ways 65 = .ok (.imul, 1) := by decide +kernel
theorem dX11_ways_66 : decode cX11_ways 66 = .ok (.iload_n 3, 1) := by decide +kernel
theorem dX11_ways_67 : decode cX11_ways 67 = .ok (.iadd, 1) := by decide +kernel
theorem dX11_ways_68 : decode cX11_ways 68 = .ok (.iaload, 1) := by decide +kernel
theorem dX11_ways_69 : decode cX11_ways 69 = .ok (.istore 4, 2) := by decide +kernel
theorem dX11_ways_71 : decode cX11_ways 71 = .ok (.iconst 0, 1) := by decide +kernel
theorem dX11_ways_72 : decode cX11_ways 72 = .ok (.istore 5, 2) := by decide +kernel
theorem dX11_ways_74 : decode cX11_ways 74 = .ok (.iconst 1, 1) := by decide +kernel
theorem dX11_ways_75 : decode cX11_ways 75 = .ok (.istore 6, 2) := by decide +kernel
theorem dX11_ways_77 : decode cX11_ways 77 = .ok (.iload 6, 2) := by decide +kernel
theorem dX11_ways_79 : decode cX11_ways 79 = .ok (.iconst 2, 1) := by decide +kernel
theorem dX11_ways_80 : decode cX11_ways 80 = .ok (.if_icmp .gt 179, 3) := by decide +kernel
theorem dX11_ways_83 : decode cX11_ways 83 = .ok (.iload 5, 2) := by decide +kernel
theorem dX11_ways_85 : decode cX11_ways 85 = .ok (.ifCond .ne 174, 3) := by decide +kernel
theorem dX11_ways_88 : decode cX11_ways 88 = .ok (.iconst 1, 1) := by decide +kernel
theorem dX11_ways_89 : decode cX11_ways 89 = .ok (.istore 7, 2) := by decide +kernel
theorem dX11_ways_91 : decode cX11_ways 91 = .ok (.iload 7, 2) := by decide +kernel
theorem dX11_ways_93 : decode cX11_ways 93 = .ok (.iconst 2, 1) := by decide +kernel
theorem dX11_ways_94 : decode cX11_ways 94 = .ok (.if_icmp .gt 159, 3) := by decide +kernel
theorem dX11_ways_97 : decode cX11_ways 97 = .ok (.iload 5, 2) := by decide +kernel
theorem dX11_ways_99 : decode cX11_ways 99 = .ok (.ifCond .ne 154, 3) := by decide +kernel
theorem dX11_ways_102 : decode cX11_ways 102 = .ok (.iload_n 2, 1) := by decide +kernel
theorem dX11_ways_103 : decode cX11_ways 103 = .ok (.iload 6, 2) := by decide +kernel
theorem dX11_ways_105 : decode cX11_ways 105 = .ok (.iadd, 1) := by decide +kernel
theorem dX11_ways_106 : decode cX11_ways 106 = .ok (.aload_n 0, 1) := by decide +kernel
theorem dX11_ways_107 : decode cX11_ways 107 = .ok (.getfield 177, 3) := by decide +kernel
theorem dX11_ways_110 : decode cX11_ways 110 = .ok (.if_icmp .gt 137, 3) := by decide +kernel
theorem dX11_ways_113 : decode cX11_ways 113 = .ok (.iload_n 3, 1) := by decide +kernel
theorem dX11_ways_114 : decode cX11_ways 114 = .ok (.iload 7, 2) := by decide +kernel
theorem dX11_ways_116 : decode cX11_ways 116 = .ok (.iadd, 1) := by decide +kernel
theorem dX11_ways_117 : decode cX11_ways 117 = .ok (.aload_n 0, 1) := by decide +kernel
theorem dX11_ways_118 : decode cX11_ways 118 = .ok (.getfield 180, 3) := by decide +kernel
theorem dX11_ways_121 : decode cX11_ways 121 = .ok (.if_icmp .le 6, 3) := by decide +kernel
theorem dX11_ways_124 : decode cX11_ways 124 = .ok (.goto 123, 3) := by decide +kernel
theorem dX11_ways_127 : decode cX11_ways 127 = .ok (.aload_n 0, 1) := by decide +kernel
theorem dX11_ways_128 : decode cX11_ways 128 = .ok (.getfield 51, 3) := by decide +kernel
theorem dX11_ways_131 : decode cX11_ways 131 = .ok (.iload_n 2, 1) := by decide +kernel
theorem dX11_ways_132 : decode cX11_ways 132 = .ok (.iload 6, 2) := by decide +kernel
theorem dX11_ways_134 : decode cX11_ways 134 = .ok (.invokestatic 183, 3) := by decide +kernel
theorem dX11_ways_137 : decode cX11_ways 137 = .ok (.istore 8, 2) := by decide +kernel
theorem dX11_ways_139 : decode cX11_ways 139 = .ok (.aload_n 0, 1) := by decide +kernel
theorem dX11_ways_140 : decode cX11_ways 140 = .ok (.getfield 54, 3) := by decide +kernel
theorem dX11_ways_143 : decode cX11_ways 143 = .ok (.iload_n 3, 1) := by decide +kernel
theorem dX11_ways_144 : decode cX11_ways 144 = .ok (.iload 7, 2) := by decide +kernel
theorem dX11_ways_146 : decode cX11_ways 146 = .ok (.invokestatic 183, 3) := by decide +kernel
theorem dX11_ways_149 : decode cX11_ways 149 = .ok (.istore 9, 2) := by decide +kernel
theorem dX11_ways_151 : decode cX11_ways 151 = .ok (.aload_n 0, 1) := by decide +kernel
theorem dX11_ways_152 : decode cX11_ways 152 = .ok (.iload 8, 2) := by decide +kernel
theorem dX11_ways_154 : decode cX11_ways 154 = .ok (.iload 9, 2) := by decide +kernel
theorem dX11_ways_156 : decode cX11_ways 156 = .ok (.invokevirtual 138, 3) := by decide +kernel
theorem dX11_ways_159 : decode cX11_ways 159 = .ok (.aload_n 0, 1) := by decide +kernel
theorem dX11_ways_160 : decode cX11_ways 160 = .ok (.getfield 57, 3) := by decide +kernel
theorem dX11_ways_163 : decode cX11_ways 163 = .ok (.bipush 41, 2) := by decide +kernel
theorem dX11_ways_165 : decode cX11_ways 165 = .ok (.iload_n 2, 1) := by decide +kernel
theorem dX11_ways_166 : decode cX11_ways 166 = .ok (.iload 6, 2) := by decide +kernel
theorem dX11_ways_168 : decode cX11_ways 168 = .ok (.iadd, 1) := by decide +kernel
theorem dX11_ways_169 : decode cX11_ways 169 = .ok (.imul, 1) := by decide +kernel
theorem dX11_ways_170 : decode cX11_ways 170 = .ok (.iload_n 3, 1) := by decide +kernel
theorem dX11_ways_171 : decode cX11_ways 171 = .ok (.iadd, 1) := by decide +kernel
theorem dX11_ways_172 : decode cX11_ways 172 = .ok (.iload 7, 2) := by decide +kernel
theorem dX11_ways_174 : decode cX11_ways 174 = .ok (.iadd, 1) := by decide +kernel
theorem dX11_ways_175 : decode cX11_ways 175 = .ok (.iaload, 1) := by decide +kernel
theorem dX11_ways_176 : decode cX11_ways 176 = .ok (.iadd, 1) := by decide +kernel
theorem dX11_ways_177 : decode cX11_ways 177 = .ok (.iload 4, 2) := by decide +kernel
theorem dX11_ways_179 : decode cX11_ways 179 = .ok (.if_icmp .eq 6, 3) := by decide +kernel
theorem dX11_ways_182 : decode cX11_ways 182 = .ok (.goto 65, 3) := by decide +kernel
theorem dX11_ways_185 : decode cX11_ways 185 = .ok (.aload_n 0, 1) := by decide +kernel
theorem dX11_ways_186 : decode cX11_ways 186 = .ok (.getfield 85, 3) := by decide +kernel
theorem dX11_ways_189 : decode cX11_ways 189 = .ok (.aload_n 0, 1) := by decide +kernel
theorem dX11_ways_190 : decode cX11_ways 190 = .ok (.getfield 211, 3) := by decide +kernel
theorem dX11_ways_193 : decode cX11_ways 193 = .ok (.iload 8, 2) := by decide +kernel
theorem dX11_ways_195 : decode cX11_ways 195 = .ok (.iastore, 1) := by decide +kernel
theorem dX11_ways_196 : decode cX11_ways 196 = .ok (.aload_n 0, 1) := by decide +kernel
theorem dX11_ways_197 : decode cX11_ways 197 = .ok (.getfield 88, 3) := by decide +kernel
theorem dX11_ways_200 : decode cX11_ways 200 = .ok (.aload_n 0, 1) := by decide +kernel
theorem dX11_ways_201 : decode cX11_ways 201 = .ok (.getfield 211, 3) := by decide +kernel
theorem dX11_ways_204 : decode cX11_ways 204 = .ok (.iload 9, 2) := by decide +kernel
theorem dX11_ways_206 : decode cX11_ways 206 = .ok (.iastore, 1) := by decide +kernel
theorem dX11_ways_207 : decode cX11_ways 207 = .ok (.aload_n 0, 1) := by decide +kernel
theorem dX11_ways_208 : decode cX11_ways 208 = .ok (.getfield 91, 3) := by decide +kernel
theorem dX11_ways_211 : decode cX11_ways 211 = .ok (.aload_n 0, 1) := by decide +kernel
theorem dX11_ways_212 : decode cX11_ways 212 = .ok (.getfield 211, 3) := by decide +kernel
theorem dX11_ways_215 : decode cX11_ways 215 = .ok (.aload_n 0, 1) := by decide +kernel
theorem dX11_ways_216 : decode cX11_ways 216 = .ok (.iload 8, 2) := by decide +kernel
theorem dX11_ways_218 : decode cX11_ways 218 = .ok (.iload 9, 2) := by decide +kernel
theorem dX11_ways_220 : decode cX11_ways 220 = .ok (.invokevirtual 138, 3) := by decide +kernel
theorem dX11_ways_223 : decode cX11_ways 223 = .ok (.iastore, 1) := by decide +kernel
theorem dX11_ways_224 : decode cX11_ways 224 = .ok (.aload_n 0, 1) := by decide +kernel
theorem dX11_ways_225 : decode cX11_ways 225 = .ok (.dup, 1) := by decide +kernel
theorem dX11_ways_226 : decode cX11_ways 226 = .ok (.getfield 211, 3) := by decide +kernel
theorem dX11_ways_229 : decode cX11_ways 229 = .ok (.iconst 1, 1) := by decide +kernel
theorem dX11_ways_230 : decode cX11_ways 230 = .ok (.iadd, 1) := by decide +kernel
theorem dX11_ways_231 : decode cX11_ways 231 = .ok (.putfield 211, 3) := by decide +kernel
theorem dX11_ways_234 : decode cX11_ways 234 = .ok (.iload_n 2, 1) := by decide +kernel
theorem dX11_ways_235 : decode cX11_ways 235 = .ok (.iload 6, 2) := by decide +kernel
theorem dX11_ways_237 : decode cX11_ways 237 = .ok (.iadd, 1) := by decide +kernel
theorem dX11_ways_238 : decode cX11_ways 238 = .ok (.istore_n 2, 1) := by decide +kernel
theorem dX11_ways_239 : decode cX11_ways 239 = .ok (.iload_n 3, 1) := by decide +kernel
theorem dX11_ways_240 : decode cX11_ways 240 = .ok (.iload 7, 2) := by decide +kernel
theorem dX11_ways_242 : decode cX11_ways 242 = .ok (.iadd, 1) := by decide +kernel
theorem dX11_ways_243 : decode cX11_ways 243 = .ok (.istore_n 3, 1) := by decide +kernel
theorem dX11_ways_244 : decode cX11_ways 244 = .ok (.iconst 1, 1) := by decide +kernel
theorem dX11_ways_245 : decode cX11_ways 245 = .ok (.istore 5, 2) := by decide +kernel
theorem dX11_ways_247 : decode cX11_ways 247 = .ok (.iinc 7 1, 3) := by decide +kernel
theorem dX11_ways_250 : decode cX11_ways 250 = .ok (.goto (-159), 3) := by decide +kernel
theorem dX11_ways_253 : decode cX11_ways 253 = .ok (.iinc 6 1, 3) := by decide +kernel
theorem dX11_ways_256 : decode cX11_ways 256 = .ok (.goto (-179), 3) := by decide +kernel
theorem dX11_ways_259 : decode cX11_ways 259 = .ok (.goto (-217), 3) := by decide +kernel
theorem dX11_ways_262 : decode cX11_ways 262 = .ok (.aload_n 0, 1) := by decide +kernel
theorem dX11_ways_263 : decode cX11_ways 263 = .ok (.getfield 211, 3) := by decide +kernel
theorem dX11_ways_266 : decode cX11_ways 266 = .ok (.ireturn, 1) := by decide +kernel
theorem dX11_way_0 : decode cX11_way 0 = .ok (.iload_n 1, 1) := by decide +kernel
theorem dX11_way_1 : decode cX11_way 1 = .ok (.iconst 0, 1) := by decide +kernel
theorem dX11_way_2 : decode cX11_way 2 = .ok (.aload_n 0, 1) := by decide +kernel
theorem dX11_way_3 : decode cX11_way 3 = .ok (.getfield 211, 3) := by decide +kernel
theorem dX11_way_6 : decode cX11_way 6 = .ok (.iconst 1, 1) := by decide +kernel
theorem dX11_way_7 : decode cX11_way 7 = .ok (.isub, 1) := by decide +kernel
theorem dX11_way_8 : decode cX11_way 8 = .ok (.invokestatic 106, 3) := by decide +kernel
theorem dX11_way_11 : decode cX11_way 11 = .ok (.ifCond .ne 5, 3) := by decide +kernel
theorem dX11_way_14 : decode cX11_way 14 = .ok (.iconst (-1), 1) := by decide +kernel
theorem dX11_way_15 : decode cX11_way 15 = .ok (.ireturn, 1) := by decide +kernel
theorem dX11_way_16 : decode cX11_way 16 = .ok (.iload_n 2, 1) := by decide +kernel
theorem dX11_way_17 : decode cX11_way 17 = .ok (.ifCond .ne 12, 3) := by decide +kernel
theorem dX11_way_20 : decode cX11_way 20 = .ok (.aload_n 0, 1) := by decide +kernel
theorem dX11_way_21 : decode cX11_way 21 = .ok (.getfield 85, 3) := by decide +kernel
theorem dX11_way_24 : decode cX11_way 24 = .ok (.iload_n 1, 1) := by decide +kernel
theorem dX11_way_25 : decode cX11_way 25 = .ok (.iaload, 1) := by decide +kernel
theorem dX11_way_26 : decode cX11_way 26 = .ok (.goto 32, 3) := by decide +kernel
theorem dX11_way_29 : decode cX11_way 29 = .ok (.iload_n 2, 1) := by decide +kernel
theorem dX11_way_30 : decode cX11_way 30 = .ok (.iconst 1, 1) := by decide +kernel
theorem dX11_way_31 : decode cX11_way 31 = .ok (.if_icmp .ne 12, 3) := by decide +kernel
theorem dX11_way_34 : decode cX11_way 34 = .ok (.aload_n 0, 1) := by decide +kernel
theorem dX11_way_35 : decode cX11_way 35 = .ok (.getfield 88, 3) := by decide +kernel
theorem dX11_way_38 : decode cX11_way 38 = .ok (.iload_n 1, 1) := by decide +kernel
theorem dX11_way_39 : decode cX11_way 39 = .ok (.iaload, 1) := by decide +kernel
theorem dX11_way_40 : decode cX11_way 40 = .ok (.goto 18, 3) := by decide +kernel
theorem dX11_way_43 : decode cX11_way 43 = .ok (.iload_n 2, 1) := by decide +kernel
theorem dX11_way_44 : decode cX11_way 44 = .ok (.iconst 2, 1) := by decide +kernel
theorem dX11_way_45 : decode cX11_way 45 = .ok (.if_icmp .ne 12, 3) := by decide +kernel
theorem dX11_way_48 : decode cX11_way 48 = .ok (.aload_n 0, 1) := by decide +kernel
theorem dX11_way_49 : decode cX11_way 49 = .ok (.getfield 91, 3) := by decide +kernel
theorem dX11_way_52 : decode cX11_way 52 = .ok (.iload_n 1, 1) := by decide +kernel
theorem dX11_way_53 : decode cX11_way 53 = .ok (.iaload, 1) := by decide +kernel
theorem dX11_way_54 : decode cX11_way 54 = .ok (.goto 4, 3) := by decide +kernel
theorem dX11_way_57 : decode cX11_way 57 = .ok (.iconst (-1), 1) := by decide +kernel
theorem dX11_way_58 : decode cX11_way 58 = .ok (.ireturn, 1) := by decide +kernel
theorem dX11_likes_0 : decode cX11_likes 0 = .ok (.iload_n 1, 1) := by decide +kernel
theorem dX11_likes_1 : decode cX11_likes 1 = .ok (.invokestatic 187, 3) := by decide +kernel
theorem dX11_likes_4 : decode cX11_likes 4 = .ok (.ifCond .ne 6, 3) := by decide +kernel
theorem dX11_likes_7 : decode cX11_likes 7 = .ok (.bipush (-2), 2) := by decide +kernel
theorem dX11_likes_9 : decode cX11_likes 9 = .ok (.ireturn, 1) := by decide +kernel
theorem dX11_likes_10 : decode cX11_likes 10 = .ok (.iconst 0, 1) := by decide +kernel
theorem dX11_likes_11 : decode cX11_likes 11 = .ok (.istore_n 2, 1) := by decide +kernel
theorem dX11_likes_12 : decode cX11_likes 12 = .ok (.aload_n 0, 1) := by decide +kernel
theorem dX11_likes_13 : decode cX11_likes 13 = .ok (.iconst 0, 1) := by decide +kernel
theorem dX11_likes_14 : decode cX11_likes 14 = .ok (.putfield 214, 3) := by decide +kernel
theorem dX11_likes_17 : decode cX11_likes 17 = .ok (.iconst 0, 1) := by decide +kernel
theorem dX11_likes_18 : decode cX11_likes 18 = .ok (.istore_n 3, 1) := by decide +kernel
theorem dX11_likes_19 : decode cX11_likes 19 = .ok (.iload_n 3, 1) := by decide +kernel
theorem dX11_likes_20 : decode cX11_likes 20 = .ok (.aload_n 0, 1) := by decide +kernel
theorem dX11_likes_21 : decode cX11_likes 21 = .ok (.getfield 190, 3) := by decide +kernel
theorem dX11_likes_24 : decode cX11_likes 24 = .ok (.if_icmp .ge 151, 3) := by decide +kernel
theorem dX11_likes_27 : decode cX11_likes 27 = .ok (.aload_n 0, 1) := by decide +kernel
theorem dX11_likes_28 : decode cX11_likes 28 = .ok (.iload_n 3, 1) := by decide +kernel
theorem dX11_likes_29 : decode cX11_likes 29 = .ok (.iload_n 1, 1) := by decide +kernel
theorem dX11_likes_30 : decode cX11_likes 30 = .ok (.invokevirtual 193, 3) := by decide +kernel
theorem dX11_likes_33 : decode cX11_likes 33 = .ok (.ifCond .ne 6, 3) := by decide +kernel
theorem dX11_likes_36 : decode cX11_likes 36 = .ok (.goto 133, 3) := by decide +kernel
theorem dX11_likes_39 : decode cX11_likes 39 = .ok (.iload_n 3, 1) := by decide +kernel
theorem dX11_likes_40 : decode cX11_likes 40 = .ok (.iconst 1, 1) := by decide +kernel
theorem dX11_likes_41 : decode cX11_likes 41 = .ok (.iadd, 1) := by decide +kernel
theorem dX11_likes_42 : decode cX11_likes 42 = .ok (.istore 4, 2) := by decide +kernel
theorem dX11_likes_44 : decode cX11_likes 44 = .ok (.iload 4, 2) := by decide +kernel
theorem dX11_likes_46 : decode cX11_likes 46 = .ok (.aload_n 0, 1) := by decide +kernel
theorem dX11_likes_47 : decode cX11_likes 47 = .ok (.getfield 190, 3) := by decide +kernel
theorem dX11_likes_50 : decode cX11_likes 50 = .ok (.if_icmp .ge 119, 3) := by decide +kernel
theorem dX11_likes_53 : decode cX11_likes 53 = .ok (.aload_n 0, 1) := by decide +kernel
theorem dX11_likes_54 : decode cX11_likes 54 = .ok (.iload 4, 2) := by decide +kernel
theorem dX11_likes_56 : decode cX11_likes 56 = .ok (.iload_n 1, 1) := by decide +kernel
theorem dX11_likes_57 : decode cX11_likes 57 = .ok (.invokevirtual 193, 3) := by decide +kernel
theorem dX11_likes_60 : decode cX11_likes 60 = .ok (.ifCond .eq 103, 3) := by decide +kernel
theorem dX11_likes_63 : decode cX11_likes 63 = .ok (.aload_n 0, 1) := by decide +kernel
theorem dX11_likes_64 : decode cX11_likes 64 = .ok (.getfield 73, 3) := by decide +kernel
theorem dX11_likes_67 : decode cX11_likes 67 = .ok (.iload 4, 2) := by decide +kernel
theorem dX11_likes_69 : decode cX11_likes 69 = .ok (.iaload, 1) := by decide +kernel
theorem dX11_likes_70 : decode cX11_likes 70 = .ok (.aload_n 0, 1) := by decide +kernel
theorem dX11_likes_71 : decode cX11_likes 71 = .ok (.getfield 73, 3) := by decide +kernel
theorem dX11_likes_74 : decode cX11_likes 74 = .ok (.iload_n 3, 1) := by decide +kernel
theorem dX11_likes_75 : decode cX11_likes 75 = .ok (.iaload, 1) := by decide +kernel
theorem dX11_likes_76 : decode cX11_likes 76 = .ok (.if_icmp .ne 6, 3) := by decide +kernel
theorem dX11_likes_79 : decode cX11_likes 79 = .ok (.goto 84, 3) := by decide +kernel
theorem dX11_likes_82 : decode cX11_likes 82 = .ok (.aload_n 0, 1) := by decide +kernel
theorem dX11_likes_83 : decode cX11_likes 83 = .ok (.iload_n 3, 1) := by decide +kernel
theorem dX11_likes_84 : decode cX11_likes 84 = .ok (.iload 4, 2) := by decide +kernel
theorem dX11_likes_86 : decode cX11_likes 86 = .ok (.invokevirtual 199, 3) := by decide +kernel
theorem dX11_likes_89 : decode cX11_likes 89 = .ok (.istore 5, 2) := by decide +kernel
theorem dX11_likes_91 : decode cX11_likes 91 = .ok (.iload 5, 2) := by decide +kernel
theorem dX11_likes_93 : decode cX11_likes 93 = .ok (.aload_n 0, 1) := by decide +kernel
theorem dX11_likes_94 : decode cX11_likes 94 = .ok (.getfield 60, 3) := by decide +kernel
theorem dX11_likes_97 : decode cX11_likes 97 = .ok (.iload_n 1, 1) := by decide +kernel
theorem dX11_likes_98 : decode cX11_likes 98 = .ok (.iaload, 1) := by decide +kernel
theorem dX11_likes_99 : decode cX11_likes 99 = .ok (.if_icmp .le 6, 3) := by decide +kernel
theorem dX11_likes_102 : decode cX11_likes 102 = .ok (.goto 61, 3) := by decide +kernel
theorem dX11_likes_105 : decode cX11_likes 105 = .ok (.iinc 2 1, 3) := by decide +kernel
theorem dX11_likes_108 : decode cX11_likes 108 = .ok (.aload_n 0, 1) := by decide +kernel
theorem dX11_likes_109 : decode cX11_likes 109 = .ok (.getfield 214, 3) := by decide +kernel
theorem dX11_likes_112 : decode cX11_likes 112 = .ok (.sipush 1000, 3) := by decide +kernel
theorem dX11_likes_115 : decode cX11_likes 115 = .ok (.if_icmp .ne 6, 3) := by decide +kernel
theorem dX11_likes_118 : decode cX11_likes 118 = .ok (.goto 45, 3) := by decide +kernel
theorem dX11_likes_121 : decode cX11_likes 121 = .ok (.aload_n 0, 1) := by decide +kernel
theorem dX11_likes_122 : decode cX11_likes 122 = .ok (.getfield 94, 3) := by decide +kernel
theorem dX11_likes_125 : decode cX11_likes 125 = .ok (.aload_n 0, 1) := by decide +kernel
theorem dX11_likes_126 : decode cX11_likes 126 = .ok (.getfield 214, 3) := by decide +kernel
theorem dX11_likes_129 : decode cX11_likes 129 = .ok (.iload_n 3, 1) := by decide +kernel
theorem dX11_likes_130 : decode cX11_likes 130 = .ok (.iastore, 1) := by decide +kernel
theorem dX11_likes_131 : decode cX11_likes 131 = .ok (.aload_n 0, 1) := by decide +kernel
theorem dX11_likes_132 : decode cX11_likes 132 = .ok (.getfield 97, 3) := by decide +kernel
theorem dX11_likes_135 : decode cX11_likes 135 = .ok (.aload_n 0, 1) := by decide +kernel
theorem dX11_likes_136 : decode cX11_likes 136 = .ok (.getfield 214, 3) := by decide +kernel
theorem dX11_likes_139 : decode cX11_likes 139 = .ok (.iload 4, 2) := by decide +kernel
theorem dX11_likes_141 : decode cX11_likes 141 = .ok (.iastore, 1) := by decide +kernel
theorem dX11_likes_142 : decode cX11_likes 142 = .ok (.aload_n 0, 1) := by decide +kernel
theorem dX11_likes_143 : decode cX11_likes 143 = .ok (.getfield 100, 3) := by decide +kernel
theorem dX11_likes_146 : decode cX11_likes 146 = .ok (.aload_n 0, 1) := by decide +kernel
theorem dX11_likes_147 : decode cX11_likes 147 = .ok (.getfield 214, 3) := by decide +kernel
theorem dX11_likes_150 : decode cX11_likes 150 = .ok (.iload 5, 2) := by decide +kernel
theorem dX11_likes_152 : decode cX11_likes 152 = .ok (.iastore, 1) := by decide +kernel
theorem dX11_likes_153 : decode cX11_likes 153 = .ok (.aload_n 0, 1) := by decide +kernel
theorem dX11_likes_154 : decode cX11_likes 154 = .ok (.dup, 1) := by decide +kernel
theorem dX11_likes_155 : decode cX11_likes 155 = .ok (.getfield 214, 3) := by decide +kernel
theorem dX11_likes_158 : decode cX11_likes 158 = .ok (.iconst 1, 1) := by decide +kernel
theorem dX11_likes_159 : decode cX11_likes 159 = .ok (.iadd, 1) := by decide +kernel
theorem dX11_likes_160 : decode cX11_likes 160 = .ok (.putfield 214, 3) := by decide +kernel
theorem dX11_likes_163 : decode cX11_likes 163 = .ok (.iinc 4 1, 3) := by decide +kernel
theorem dX11_likes_166 : decode cX11_likes 166 = .ok (.goto (-122), 3) := by decide +kernel
theorem dX11_likes_169 : decode cX11_likes 169 = .ok (.iinc 3 1, 3) := by decide +kernel
theorem dX11_likes_172 : decode cX11_likes 172 = .ok (.goto (-153), 3) := by decide +kernel
theorem dX11_likes_175 : decode cX11_likes 175 = .ok (.iload_n 2, 1) := by decide +kernel
theorem dX11_likes_176 : decode cX11_likes 176 = .ok (.ireturn, 1) := by decide +kernel
theorem dX11_like_0 : decode cX11_like 0 = .ok (.iload_n 1, 1) := by decide +kernel
theorem dX11_like_1 : decode cX11_like 1 = .ok (.iconst 0, 1) := by decide +kernel
theorem dX11_like_2 : decode cX11_like 2 = .ok (.aload_n 0, 1) := by decide +kernel
theorem dX11_like_3 : decode cX11_like 3 = .ok (.getfield 214, 3) := by decide +kernel
theorem dX11_like_6 : decode cX11_like 6 = .ok (.iconst 1, 1) := by decide +kernel
theorem dX11_like_7 : decode cX11_like 7 = .ok (.isub, 1) := by decide +kernel
theorem dX11_like_8 : decode cX11_like 8 = .ok (.invokestatic 106, 3) := by decide +kernel
theorem dX11_like_11 : decode cX11_like 11 = .ok (.ifCond .ne 5, 3) := by decide +kernel
theorem dX11_like_14 : decode cX11_like 14 = .ok (.iconst (-1), 1) := by decide +kernel
theorem dX11_like_15 : decode cX11_like 15 = .ok (.ireturn, 1) := by decide +kernel
theorem dX11_like_16 : decode cX11_like 16 = .ok (.iload_n 2, 1) := by decide +kernel
theorem dX11_like_17 : decode cX11_like 17 = .ok (.ifCond .ne 12, 3) := by decide +kernel
theorem dX11_like_20 : decode cX11_like 20 = .ok (.aload_n 0, 1) := by decide +kernel
theorem dX11_like_21 : decode cX11_like 21 = .ok (.getfield 94, 3) := by decide +kernel
theorem dX11_like_24 : decode cX11_like 24 = .ok (.iload_n 1, 1) := by decide +kernel
theorem dX11_like_25 : decode cX11_like 25 = .ok (.iaload, 1) := by decide +kernel
theorem dX11_like_26 : decode cX11_like 26 = .ok (.goto 32, 3) := by decide +kernel
theorem dX11_like_29 : decode cX11_like 29 = .ok (.iload_n 2, 1) := by decide +kernel
theorem dX11_like_30 : decode cX11_like 30 = .ok (.iconst 1, 1) := by decide +kernel
theorem dX11_like_31 : decode cX11_like 31 = .ok (.if_icmp .ne 12, 3) := by decide +kernel
theorem dX11_like_34 : decode cX11_like 34 = .ok (.aload_n 0, 1) := by decide +kernel
theorem dX11_like_35 : decode cX11_like 35 = .ok (.getfield 97, 3) := by decide +kernel
theorem dX11_like_38 : decode cX11_like 38 = .ok (.iload_n 1, 1) := by decide +kernel
theorem dX11_like_39 : decode cX11_like 39 = .ok (.iaload, 1) := by decide +kernel
theorem dX11_like_40 : decode cX11_like 40 = .ok (.goto 18, 3) := by decide +kernel
theorem dX11_like_43 : decode cX11_like 43 = .ok (.iload_n 2, 1) := by decide +kernel
theorem dX11_like_44 : decode cX11_like 44 = .ok (.iconst 2, 1) := by decide +kernel
theorem dX11_like_45 : decode cX11_like 45 = .ok (.if_icmp .ne 12, 3) := by decide +kernel
theorem dX11_like_48 : decode cX11_like 48 = .ok (.aload_n 0, 1) := by decide +kernel
theorem dX11_like_49 : decode cX11_like 49 = .ok (.getfield 100, 3) := by decide +kernel
theorem dX11_like_52 : decode cX11_like 52 = .ok (.iload_n 1, 1) := by decide +kernel
theorem dX11_like_53 : decode cX11_like 53 = .ok (.iaload, 1) := by decide +kernel
theorem dX11_like_54 : decode cX11_like 54 = .ok (.goto 4, 3) := by decide +kernel
theorem dX11_like_57 : decode cX11_like 57 = .ok (.iconst (-1), 1) := by decide +kernel
theorem dX11_like_58 : decode cX11_like 58 = .ok (.ireturn, 1) := by decide +kernel
theorem dX11_count_0 : decode cX11_count 0 = .ok (.iconst 0, 1) := by decide +kernel
theorem dX11_count_1 : decode cX11_count 1 = .ok (.istore_n 2, 1) := by decide +kernel
theorem dX11_count_2 : decode cX11_count 2 = .ok (.iload_n 1, 1) := by decide +kernel
theorem dX11_count_3 : decode cX11_count 3 = .ok (.tableswitch 97 0 5 #[37, 42, 47, 52, 87, 92], 37) := by decide +kernel
theorem dX11_count_40 : decode cX11_count 40 = .ok (.aload_n 0, 1) := by decide +kernel
theorem dX11_count_41 : decode cX11_count 41 = .ok (.getfield 117, 3) := by decide +kernel
theorem dX11_count_44 : decode cX11_count 44 = .ok (.ireturn, 1) := by decide +kernel
theorem dX11_count_45 : decode cX11_count 45 = .ok (.aload_n 0, 1) := by decide +kernel
theorem dX11_count_46 : decode cX11_count 46 = .ok (.getfield 141, 3) := by decide +kernel
theorem dX11_count_49 : decode cX11_count 49 = .ok (.ireturn, 1) := by decide +kernel
theorem dX11_count_50 : decode cX11_count 50 = .ok (.aload_n 0, 1) := by decide +kernel
theorem dX11_count_51 : decode cX11_count 51 = .ok (.getfield 190, 3) := by decide +kernel
theorem dX11_count_54 : decode cX11_count 54 = .ok (.ireturn, 1) := by decide +kernel
theorem dX11_count_55 : decode cX11_count 55 = .ok (.iconst 0, 1) := by decide +kernel
theorem dX11_count_56 : decode cX11_count 56 = .ok (.istore_n 3, 1) := by decide +kernel
theorem dX11_count_57 : decode cX11_count 57 = .ok (.iload_n 3, 1) := by decide +kernel
theorem dX11_count_58 : decode cX11_count 58 = .ok (.aload_n 0, 1) := by decide +kernel
theorem dX11_count_59 : decode cX11_count 59 = .ok (.getfield 190, 3) := by decide +kernel
theorem dX11_count_62 : decode cX11_count 62 = .ok (.if_icmp .ge 26, 3) := by decide +kernel
theorem dX11_count_65 : decode cX11_count 65 = .ok (.iload_n 2, 1) := by decide +kernel
theorem dX11_count_66 : decode cX11_count 66 = .ok (.aload_n 0, 1) := by decide +kernel
theorem dX11_count_67 : decode cX11_count 67 = .ok (.getfield 76, 3) := by decide +kernel
theorem dX11_count_70 : decode cX11_count 70 = .ok (.iload_n 3, 1) := by decide +kernel
theorem dX11_count_71 : decode cX11_count 71 = .ok (.baload, 1) := by decide +kernel
theorem dX11_count_72 : decode cX11_count 72 = .ok (.ifCond .eq 7, 3) := by decide +kernel
theorem dX11_count_75 : decode cX11_count 75 = .ok (.iconst 1, 1) := by decide +kernel
theorem dX11_count_76 : decode cX11_count 76 = .ok (.goto 4, 3) := by decide +kernel
theorem dX11_count_79 : decode cX11_count 79 = .ok (.iconst 0, 1) := by decide +kernel
theorem dX11_count_80 : decode cX11_count 80 = .ok (.iadd, 1) := by decide +kernel
theorem dX11_count_81 : decode cX11_count 81 = .ok (.istore_n 2, 1) := by decide +kernel
theorem dX11_count_82 : decode cX11_count 82 = .ok (.iinc 3 1, 3) := by decide +kernel
theorem dX11_count_85 : decode cX11_count 85 = .ok (.goto (-28), 3) := by decide +kernel
theorem dX11_count_88 : decode cX11_count 88 = .ok (.iload_n 2, 1) := by decide +kernel
theorem dX11_count_89 : decode cX11_count 89 = .ok (.ireturn, 1) := by decide +kernel
theorem dX11_count_90 : decode cX11_count 90 = .ok (.aload_n 0, 1) := by decide +kernel
theorem dX11_count_91 : decode cX11_count 91 = .ok (.getfield 110, 3) := by decide +kernel
theorem dX11_count_94 : decode cX11_count 94 = .ok (.ireturn, 1) := by decide +kernel
theorem dX11_count_95 : decode cX11_count 95 = .ok (.aload_n 0, 1) := by decide +kernel
theorem dX11_count_96 : decode cX11_count 96 = .ok (.getfield 131, 3) := by decide +kernel
theorem dX11_count_99 : decode cX11_count 99 = .ok (.ireturn, 1) := by decide +kernel
theorem dX11_count_100 : decode cX11_count 100 = .ok (.iload_n 1, 1) := by decide +kernel
theorem dX11_count_101 : decode cX11_count 101 = .ok (.bipush 10, 2) := by decide +kernel
theorem dX11_count_103 : decode cX11_count 103 = .ok (.bipush 13, 2) := by decide +kernel
theorem dX11_count_105 : decode cX11_count 105 = .ok (.invokestatic 106, 3) := by decide +kernel
theorem dX11_count_108 : decode cX11_count 108 = .ok (.ifCond .eq 13, 3) := by decide +kernel
theorem dX11_count_111 : decode cX11_count 111 = .ok (.aload_n 0, 1) := by decide +kernel
theorem dX11_count_112 : decode cX11_count 112 = .ok (.getfield 60, 3) := by decide +kernel
theorem dX11_count_115 : decode cX11_count 115 = .ok (.iload_n 1, 1) := by decide +kernel
theorem dX11_count_116 : decode cX11_count 116 = .ok (.bipush 10, 2) := by decide +kernel
theorem dX11_count_118 : decode cX11_count 118 = .ok (.isub, 1) := by decide +kernel
theorem dX11_count_119 : decode cX11_count 119 = .ok (.iaload, 1) := by decide +kernel
theorem dX11_count_120 : decode cX11_count 120 = .ok (.ireturn, 1) := by decide +kernel
theorem dX11_count_121 : decode cX11_count 121 = .ok (.iload_n 1, 1) := by decide +kernel
theorem dX11_count_122 : decode cX11_count 122 = .ok (.bipush 20, 2) := by decide +kernel
theorem dX11_count_124 : decode cX11_count 124 = .ok (.bipush 23, 2) := by decide +kernel
theorem dX11_count_126 : decode cX11_count 126 = .ok (.invokestatic 106, 3) := by decide +kernel
theorem dX11_count_129 : decode cX11_count 129 = .ok (.ifCond .eq 13, 3) := by decide +kernel
theorem dX11_count_132 : decode cX11_count 132 = .ok (.aload_n 0, 1) := by decide +kernel
theorem dX11_count_133 : decode cX11_count 133 = .ok (.getfield 63, 3) := by decide +kernel
theorem dX11_count_136 : decode cX11_count 136 = .ok (.iload_n 1, 1) := by decide +kernel
theorem dX11_count_137 : decode cX11_count 137 = .ok (.bipush 20, 2) := by decide +kernel
theorem dX11_count_139 : decode cX11_count 139 = .ok (.isub, 1) := by decide +kernel
theorem dX11_count_140 : decode cX11_count 140 = .ok (.iaload, 1) := by decide +kernel
theorem dX11_count_141 : decode cX11_count 141 = .ok (.ireturn, 1) := by decide +kernel
theorem dX11_count_142 : decode cX11_count 142 = .ok (.iload_n 1, 1) := by decide +kernel
theorem dX11_count_143 : decode cX11_count 143 = .ok (.bipush 30, 2) := by decide +kernel
theorem dX11_count_145 : decode cX11_count 145 = .ok (.bipush 33, 2) := by decide +kernel
theorem dX11_count_147 : decode cX11_count 147 = .ok (.invokestatic 106, 3) := by decide +kernel
theorem dX11_count_150 : decode cX11_count 150 = .ok (.ifCond .eq 23, 3) := by decide +kernel
theorem dX11_count_153 : decode cX11_count 153 = .ok (.aload_n 0, 1) := by decide +kernel
theorem dX11_count_154 : decode cX11_count 154 = .ok (.getfield 66, 3) := by decide +kernel
theorem dX11_count_157 : decode cX11_count 157 = .ok (.iload_n 1, 1) := by decide +kernel
theorem dX11_count_158 : decode cX11_count 158 = .ok (.bipush 30, 2) := by decide +kernel
theorem dX11_count_160 : decode cX11_count 160 = .ok (.isub, 1) := by decide +kernel
theorem dX11_count_161 : decode cX11_count 161 = .ok (.baload, 1) := by decide +kernel
theorem dX11_count_162 : decode cX11_count 162 = .ok (.ifCond .eq 7, 3) := by decide +kernel
theorem dX11_count_165 : decode cX11_count 165 = .ok (.iconst 1, 1) := by decide +kernel
theorem dX11_count_166 : decode cX11_count 166 = .ok (.goto 8, 3) := by decide +kernel
theorem dX11_count_169 : decode cX11_count 169 = .ok (.iconst 0, 1) := by decide +kernel
theorem dX11_count_170 : decode cX11_count 170 = .ok (.goto 4, 3) := by decide +kernel
theorem dX11_count_173 : decode cX11_count 173 = .ok (.iconst (-1), 1) := by decide +kernel
theorem dX11_count_174 : decode cX11_count 174 = .ok (.ireturn, 1) := by decide +kernel
