theorem dX6_digit_259 : decode cX6_digit 259 = .ok (.getfield 66, 3) := by decide +kernel
theorem dX6_digit_262 : decode cX6_digit 262 = .ok (.iload_n 1, 1) := by decide +kernel
theorem dX6_digit_263 : decode cX6_digit 263 = .ok (.iload_n 2, 1) := by decide +kernel
theorem dX6_digit_264 : decode cX6_digit 264 = .ok (.iadd, 1) := by decide +kernel
theorem dX6_digit_265 : decode cX6_digit 265 = .ok (.iaload, 1) := by decide +kernel
theorem dX6_digit_266 : decode cX6_digit 266 = .ok (.i2l, 1) := by decide +kernel
theorem dX6_digit_267 : decode cX6_digit 267 = .ok (.lload 10, 2) := by decide +kernel
theorem dX6_digit_269 : decode cX6_digit 269 = .ok (.lsub, 1) := by decide +kernel
theorem dX6_digit_270 : decode cX6_digit 270 = .ok (.lload 12, 2) := by decide +kernel
theorem dX6_digit_272 : decode cX6_digit 272 = .ok (.lsub, 1) := by decide +kernel
theorem dX6_digit_273 : decode cX6_digit 273 = .ok (.lstore 14, 2) := by decide +kernel
theorem dX6_digit_275 : decode cX6_digit 275 = .ok (.lload 14, 2) := by decide +kernel
theorem dX6_digit_277 : decode cX6_digit 277 = .ok (.lconst 0, 1) := by decide +kernel
theorem dX6_digit_278 : decode cX6_digit 278 = .ok (.lcmp, 1) := by decide +kernel
theorem dX6_digit_279 : decode cX6_digit 279 = .ok (.ifCond .ge 81, 3) := by decide +kernel
theorem dX6_digit_282 : decode cX6_digit 282 = .ok (.lload 5, 2) := by decide +kernel
theorem dX6_digit_284 : decode cX6_digit 284 = .ok (.lconst 1, 1) := by decide +kernel
theorem dX6_digit_285 : decode cX6_digit 285 = .ok (.lsub, 1) := by decide +kernel
theorem dX6_digit_286 : decode cX6_digit 286 = .ok (.lstore 5, 2) := by decide +kernel
theorem dX6_digit_288 : decode cX6_digit 288 = .ok (.lconst 0, 1) := by decide +kernel
theorem dX6_digit_289 : decode cX6_digit 289 = .ok (.lstore 16, 2) := by decide +kernel
theorem dX6_digit_291 : decode cX6_digit 291 = .ok (.iconst 0, 1) := by decide +kernel
theorem dX6_digit_292 : decode cX6_digit 292 = .ok (.istore 18, 2) := by decide +kernel
theorem dX6_digit_294 : decode cX6_digit 294 = .ok (.iload 18, 2) := by decide +kernel
theorem dX6_digit_296 : decode cX6_digit 296 = .ok (.iload_n 2, 1) := by decide +kernel
theorem dX6_digit_297 : decode cX6_digit 297 = .ok (.if_icmp .ge 56, 3) := by decide +kernel
theorem dX6_digit_300 : decode cX6_digit 300 = .ok (.aload_n 0, 1) := by decide +kernel
theorem dX6_digit_301 : decode cX6_digit 301 = .ok (.getfield 66, 3) := by decide +kernel
theorem dX6_digit_304 : decode cX6_digit 304 = .ok (.iload 18, 2) := by decide +kernel
theorem dX6_digit_306 : decode cX6_digit 306 = .ok (.iload_n 1, 1) := by decide +kernel
theorem dX6_digit_307 : decode cX6_digit 307 = .ok (.iadd, 1) := by decide +kernel
theorem dX6_digit_308 : decode cX6_digit 308 = .ok (.iaload, 1) := by decide +kernel
theorem dX6_digit_309 : decode cX6_digit 309 = .ok (.i2l, 1) := by decide +kernel
theorem dX6_digit_310 : decode cX6_digit 310 = .ok (.aload_n 0, 1) := by decide +kernel
theorem dX6_digit_311 : decode cX6_digit 311 = .ok (.getfield 69, 3) := by decide +kernel
theorem dX6_digit_314 : decode cX6_digit 314 = .ok (.iload 18, 2) := by decide +kernel
theorem dX6_digit_316 : decode cX6_digit 316 = .ok (.iaload, 1) := by decide +kernel
theorem dX6_digit_317 : decode cX6_digit 317 = .ok (.i2l, 1) := by decide +kernel
theorem dX6_digit_318 : decode cX6_digit 318 = .ok (.ladd, 1) := by decide +kernel
theorem dX6_digit_319 : decode cX6_digit 319 = .ok (.lload 16, 2) := by decide +kernel
theorem dX6_digit_321 : decode cX6_digit 321 = .ok (.ladd, 1) := by decide +kernel
theorem dX6_digit_322 : decode cX6_digit 322 = .ok (.lstore 19, 2) := by decide +kernel
theorem dX6_digit_324 : decode cX6_digit 324 = .ok (.lload 19, 2) := by decide +kernel
theorem dX6_digit_326 : decode cX6_digit 326 = .ok (.bipush 31, 2) := by decide +kernel
theorem dX6_digit_328 : decode cX6_digit 328 = .ok (.lshr, 1) := by decide +kernel
theorem dX6_digit_329 : decode cX6_digit 329 = .ok (.lstore 16, 2) := by decide +kernel
theorem dX6_digit_331 : decode cX6_digit 331 = .ok (.aload_n 0, 1) := by decide +kernel
theorem dX6_digit_332 : decode cX6_digit 332 = .ok (.getfield 66, 3) := by decide +kernel
theorem dX6_digit_335 : decode cX6_digit 335 = .ok (.iload 18, 2) := by decide +kernel
theorem dX6_digit_337 : decode cX6_digit 337 = .ok (.iload_n 1, 1) := by decide +kernel
theorem dX6_digit_338 : decode cX6_digit 338 = .ok (.iadd, 1) := by decide +kernel
theorem dX6_digit_339 : decode cX6_digit 339 = .ok (.lload 19, 2) := by decide +kernel
theorem dX6_digit_341 : decode cX6_digit 341 = .ok (.ldc2_w 189, 3) := by decide +kernel
theorem dX6_digit_344 : decode cX6_digit 344 = .ok (.land, 1) := by decide +kernel
theorem dX6_digit_345 : decode cX6_digit 345 = .ok (.l2i, 1) := by decide +kernel
theorem dX6_digit_346 : decode cX6_digit 346 = .ok (.iastore, 1) := by decide +kernel
theorem dX6_digit_347 : decode cX6_digit 347 = .ok (.iinc 18 1, 3) := by decide +kernel
theorem dX6_digit_350 : decode cX6_digit 350 = .ok (.goto (-56), 3) := by decide +kernel
theorem dX6_digit_353 : decode cX6_digit 353 = .ok (.lload 14, 2) := by decide +kernel
theorem dX6_digit_355 : decode cX6_digit 355 = .ok (.lload 16, 2) := by decide +kernel
theorem dX6_digit_357 : decode cX6_digit 357 = .ok (.ladd, 1) := by decide +kernel
theorem dX6_digit_358 : decode cX6_digit 358 = .ok (.lstore 14, 2) := by decide +kernel
theorem dX6_digit_360 : decode cX6_digit 360 = .ok (.aload_n 0, 1) := by decide +kernel
theorem dX6_digit_361 : decode cX6_digit 361 = .ok (.getfield 66, 3) := by decide +kernel
theorem dX6_digit_364 : decode cX6_digit 364 = .ok (.iload_n 1, 1) := by decide +kernel
theorem dX6_digit_365 : decode cX6_digit 365 = .ok (.iload_n 2, 1) := by decide +kernel
theorem dX6_digit_366 : decode cX6_digit 366 = .ok (.iadd, 1) := by decide +kernel
theorem dX6_digit_367 : decode cX6_digit 367 = .ok (.lload 14, 2) := by decide +kernel
theorem dX6_digit_369 : decode cX6_digit 369 = .ok (.l2i, 1) := by decide +kernel
theorem dX6_digit_370 : decode cX6_digit 370 = .ok (.iastore, 1) := by decide +kernel
theorem dX6_digit_371 : decode cX6_digit 371 = .ok (.lload 5, 2) := by decide +kernel
theorem dX6_digit_373 : decode cX6_digit 373 = .ok (.lreturn, 1) := by decide +kernel
theorem dX6_times_0 : decode cX6_times 0 = .ok (.iload_n 1, 1) := by decide +kernel
theorem dX6_times_1 : decode cX6_times 1 = .ok (.ifCond .eq 10, 3) := by decide +kernel
theorem dX6_times_4 : decode cX6_times 4 = .ok (.aload_n 0, 1) := by decide +kernel
theorem dX6_times_5 : decode cX6_times 5 = .ok (.getfield 197, 3) := by decide +kernel
theorem dX6_times_8 : decode cX6_times 8 = .ok (.goto 7, 3) := by decide +kernel
theorem dX6_times_11 : decode cX6_times 11 = .ok (.aload_n 0, 1) := by decide +kernel
theorem dX6_times_12 : decode cX6_times 12 = .ok (.getfield 200, 3) := by decide +kernel
theorem dX6_times_15 : decode cX6_times 15 = .ok (.istore_n 2, 1) := by decide +kernel
theorem dX6_times_16 : decode cX6_times 16 = .ok (.iconst 0, 1) := by decide +kernel
theorem dX6_times_17 : decode cX6_times 17 = .ok (.istore_n 3, 1) := by decide +kernel
theorem dX6_times_18 : decode cX6_times 18 = .ok (.iload_n 3, 1) := by decide +kernel
theorem dX6_times_19 : decode cX6_times 19 = .ok (.aload_n 0, 1) := by decide +kernel
theorem dX6_times_20 : decode cX6_times 20 = .ok (.getfield 200, 3) := by decide +kernel
theorem dX6_times_23 : decode cX6_times 23 = .ok (.iload_n 2, 1) := by decide +kernel
theorem dX6_times_24 : decode cX6_times 24 = .ok (.iadd, 1) := by decide +kernel
theorem dX6_times_25 : decode cX6_times 25 = .ok (.if_icmp .ge 16, 3) := by decide +kernel
theorem dX6_times_28 : decode cX6_times 28 = .ok (.aload_n 0, 1) := by decide +kernel
theorem dX6_times_29 : decode cX6_times 29 = .ok (.getfield 66, 3) := by decide +kernel
theorem dX6_times_32 : decode cX6_times 32 = .ok (.iload_n 3, 1) := by decide +kernel
theorem dX6_times_33 : decode cX6_times 33 = .ok (.iconst 0, 1) := by decide +kernel
theorem dX6_times_34 : decode cX6_times 34 = .ok (.iastore, 1) := by decide +kernel
theorem dX6_times_35 : decode cX6_times 35 = .ok (.iinc 3 1, 3) := by decide +kernel
theorem dX6_times_38 : decode cX6_times 38 = .ok (.goto (-20), 3) := by decide +kernel
theorem dX6_times_41 : decode cX6_times 41 = .ok (.iconst 0, 1) := by decide +kernel
theorem dX6_times_42 : decode cX6_times 42 = .ok (.istore_n 3, 1) := by decide +kernel
theorem dX6_times_43 : decode cX6_times 43 = .ok (.iload_n 3, 1) := by decide +kernel
theorem dX6_times_44 : decode cX6_times 44 = .ok (.aload_n 0, 1) := by decide +kernel
theorem dX6_times_45 : decode cX6_times 45 = .ok (.getfield 200, 3) := by decide +kernel
theorem dX6_times_48 : decode cX6_times 48 = .ok (.if_icmp .ge 107, 3) := by decide +kernel
theorem dX6_times_51 : decode cX6_times 51 = .ok (.lconst 0, 1) := by decide +kernel
theorem dX6_times_52 : decode cX6_times 52 = .ok (.lstore 4, 2) := by decide +kernel
theorem dX6_times_54 : decode cX6_times 54 = .ok (.iconst 0, 1) := by decide +kernel
theorem dX6_times_55 : decode cX6_times 55 = .ok (.istore 6, 2) := by decide +kernel
theorem dX6_times_57 : decode cX6_times 57 = .ok (.iload 6, 2) := by decide +kernel
theorem dX6_times_59 : decode cX6_times 59 = .ok (.iload_n 2, 1) := by decide +kernel
theorem dX6_times_60 : decode cX6_times 60 = .ok (.if_icmp .ge 78, 3) := by decide +kernel
theorem dX6_times_63 : decode cX6_times 63 = .ok (.aload_n 0, 1) := by decide +kernel
theorem dX6_times_64 : decode cX6_times 64 = .ok (.getfield 78, 3) := by decide +kernel
theorem dX6_times_67 : decode cX6_times 67 = .ok (.iload_n 3, 1) := by decide +kernel
theorem dX6_times_68 : decode cX6_times 68 = .ok (.iaload, 1) := by decide +kernel
theorem dX6_times_69 : decode cX6_times 69 = .ok (.i2l, 1) := by decide +kernel
theorem dX6_times_70 : decode cX6_times 70 = .ok (.iload_n 1, 1) := by decide +kernel
theorem dX6_times_71 : decode cX6_times 71 = .ok (.ifCond .eq 13, 3) := by decide +kernel
theorem dX6_times_74 : decode cX6_times 74 = .ok (.aload_n 0, 1) := by decide +kernel
theorem dX6_times_75 : decode cX6_times 75 = .ok (.getfield 75, 3) := by decide +kernel
theorem dX6_times_78 : decode cX6_times 78 = .ok (.iload 6, 2) := by decide +kernel
theorem dX6_times_80 : decode cX6_times 80 = .ok (.iaload, 1) := by decide +kernel
theorem dX6_times_81 : decode cX6_times 81 = .ok (.goto 10, 3) := by decide +kernel
theorem dX6_times_84 : decode cX6_times 84 = .ok (.aload_n 0, 1) := by decide +kernel
theorem dX6_times_85 : decode cX6_times 85 = .ok (.getfield 78, 3) := by decide +kernel
theorem dX6_times_88 : decode cX6_times 88 = .ok (.iload 6, 2) := by decide +kernel
theorem dX6_times_90 : decode cX6_times 90 = .ok (.iaload, 1) := by decide +kernel
theorem dX6_times_91 : decode cX6_times 91 = .ok (.i2l, 1) := by decide +kernel
theorem dX6_times_92 : decode cX6_times 92 = .ok (.lmul, 1) := by decide +kernel
theorem dX6_times_93 : decode cX6_times 93 = .ok (.aload_n 0, 1) := by decide +kernel
theorem dX6_times_94 : decode cX6_times 94 = .ok (.getfield 66, 3) := by decide +kernel
theorem dX6_times_97 : decode cX6_times 97 = .ok (.iload_n 3, 1) := by decide +kernel
theorem dX6_times_98 : decode cX6_times 98 = .ok (.iload 6, 2) := by decide +kernel
theorem dX6_times_100 : decode cX6_times 100 = .ok (.iadd, 1) := by decide +kernel
theorem dX6_times_101 : decode cX6_times 101 = .ok (.iaload, 1) := by decide +kernel
theorem dX6_times_102 : decode cX6_times 102 = .ok (.i2l, 1) := by decide +kernel
theorem dX6_times_103 : decode cX6_times 103 = .ok (.ladd, 1) := by decide +kernel
theorem dX6_times_104 : decode cX6_times 104 = .ok (.lload 4, 2) := by decide +kernel
theorem dX6_times_106 : decode cX6_times 106 = .ok (.ladd, 1) := by decide +kernel
theorem dX6_times_107 : decode cX6_times 107 = .ok (.lstore 7, 2) := by decide +kernel
theorem dX6_times_109 : decode cX6_times 109 = .ok (.aload_n 0, 1) := by decide +kernel
theorem dX6_times_110 : decode cX6_times 110 = .ok (.getfield 66, 3) := by decide +kernel
theorem dX6_times_113 : decode cX6_times 113 = .ok (.iload_n 3, 1) := by decide +kernel
theorem dX6_times_114 : decode cX6_times 114 = .ok (.iload 6, 2) := by decide +kernel
theorem dX6_times_116 : decode cX6_times 116 = .ok (.iadd, 1) := by decide +kernel
theorem dX6_times_117 : decode cX6_times 117 = .ok (.lload 7, 2) := by decide +kernel
theorem dX6_times_119 : decode cX6_times 119 = .ok (.ldc2_w 189, 3) := by decide +kernel
theorem dX6_times_122 : decode cX6_times 122 = .ok (.land, 1) := by decide +kernel
theorem dX6_times_123 : decode cX6_times 123 = .ok (.l2i, 1) := by decide +kernel
theorem dX6_times_124 : decode cX6_times 124 = .ok (.iastore, 1) := by decide +kernel
theorem dX6_times_125 : decode cX6_times 125 = .ok (.lload 7, 2) := by decide +kernel
theorem dX6_times_127 : decode cX6_times 127 = .ok (.bipush 31, 2) := by decide +kernel
theorem dX6_times_129 : decode cX6_times 129 = .ok (.lshr, 1) := by decide +kernel
theorem dX6_times_130 : decode cX6_times 130 = .ok (.lstore 4, 2) := by decide +kernel
theorem dX6_times_132 : decode cX6_times 132 = .ok (.iinc 6 1, 3) := by decide +kernel
theorem dX6_times_135 : decode cX6_times 135 = .ok (.goto (-78), 3) := by decide +kernel
theorem dX6_times_138 : decode cX6_times 138 = .ok (.aload_n 0, 1) := by decide +kernel
theorem dX6_times_139 : decode cX6_times 139 = .ok (.getfield 66, 3) := by decide +kernel
theorem dX6_times_142 : decode cX6_times 142 = .ok (.iload_n 3, 1) := by decide +kernel
theorem dX6_times_143 : decode cX6_times 143 = .ok (.iload_n 2, 1) := by decide +kernel
theorem dX6_times_144 : decode cX6_times 144 = .ok (.iadd, 1) := by decide +kernel
theorem dX6_times_145 : decode cX6_times 145 = .ok (.lload 4, 2) := by decide +kernel
theorem dX6_times_147 : decode cX6_times 147 = .ok (.l2i, 1) := by decide +kernel
theorem dX6_times_148 : decode cX6_times 148 = .ok (.iastore, 1) := by decide +kernel
theorem dX6_times_149 : decode cX6_times 149 = .ok (.iinc 3 1, 3) := by decide +kernel
theorem dX6_times_152 : decode cX6_times 152 = .ok (.goto (-109), 3) := by decide +kernel
theorem dX6_times_155 : decode cX6_times 155 = .ok (.aload_n 0, 1) := by decide +kernel
theorem dX6_times_156 : decode cX6_times 156 = .ok (.aload_n 0, 1) := by decide +kernel
theorem dX6_times_157 : decode cX6_times 157 = .ok (.getfield 200, 3) := by decide +kernel
theorem dX6_times_160 : decode cX6_times 160 = .ok (.iload_n 2, 1) := by decide +kernel
theorem dX6_times_161 : decode cX6_times 161 = .ok (.iadd, 1) := by decide +kernel
theorem dX6_times_162 : decode cX6_times 162 = .ok (.putfield 179, 3) := by decide +kernel
theorem dX6_times_165 : decode cX6_times 165 = .ok (.aload_n 0, 1) := by decide +kernel
theorem dX6_times_166 : decode cX6_times 166 = .ok (.getfield 179, 3) := by decide +kernel
theorem dX6_times_169 : decode cX6_times 169 = .ok (.ifCond .le 30, 3) := by decide +kernel
theorem dX6_times_172 : decode cX6_times 172 = .ok (.aload_n 0, 1) := by decide +kernel
theorem dX6_times_173 : decode cX6_times 173 = .ok (.getfield 66, 3) := by decide +kernel
theorem dX6_times_176 : decode cX6_times 176 = .ok (.aload_n 0, 1) := by decide +kernel
theorem dX6_times_177 : decode cX6_times 177 = .ok (.getfield 179, 3) := by decide +kernel
theorem dX6_times_180 : decode cX6_times 180 = .ok (.iconst 1, 1) := by decide +kernel
theorem dX6_times_181 : decode cX6_times 181 = .ok (.isub, 1) := by decide +kernel
theorem dX6_times_182 : decode cX6_times 182 = .ok (.iaload, 1) := by decide +kernel
theorem dX6_times_183 : decode cX6_times 183 = .ok (.ifCond .ne 16, 3) := by decide +kernel
theorem dX6_times_186 : decode cX6_times 186 = .ok (.aload_n 0, 1) := by decide +kernel
theorem dX6_times_187 : decode cX6_times 187 = .ok (.dup, 1) := by decide +kernel
theorem dX6_times_188 : decode cX6_times 188 = .ok (.getfield 179, 3) := by decide +kernel
theorem dX6_times_191 : decode cX6_times 191 = .ok (.iconst 1, 1) := by decide +kernel
theorem dX6_times_192 : decode cX6_times 192 = .ok (.isub, 1) := by decide +kernel
theorem dX6_times_193 : decode cX6_times 193 = .ok (.putfield 179, 3) := by decide +kernel
theorem dX6_times_196 : decode cX6_times 196 = .ok (.goto (-31), 3) := by decide +kernel
theorem dX6_times_199 : decode cX6_times 199 = .ok (.return_, 1) := by decide +kernel
theorem dX6_putU_0 : decode cX6_putU 0 = .ok (.iconst 0, 1) := by decide +kernel
theorem dX6_putU_1 : decode cX6_putU 1 = .ok (.istore_n 2, 1) := by decide +kernel
theorem dX6_putU_2 : decode cX6_putU 2 = .ok (.iload_n 2, 1) := by decide +kernel
theorem dX6_putU_3 : decode cX6_putU 3 = .ok (.aload_n 0, 1) := by decide +kernel
theorem dX6_putU_4 : decode cX6_putU 4 = .ok (.getfield 20, 3) := by decide +kernel
theorem dX6_putU_7 : decode cX6_putU 7 = .ok (.iload_n 1, 1) := by decide +kernel
theorem dX6_putU_8 : decode cX6_putU 8 = .ok (.iaload, 1) := by decide +kernel
theorem dX6_putU_9 : decode cX6_putU 9 = .ok (.if_icmp .ge 40, 3) := by decide +kernel
theorem dX6_putU_12 : decode cX6_putU 12 = .ok (.aload_n 0, 1) := by decide +kernel
theorem dX6_putU_13 : decode cX6_putU 13 = .ok (.getfield 7, 3) := by decide +kernel
theorem dX6_putU_16 : decode cX6_putU 16 = .ok (.aload_n 0, 1) := by decide +kernel
theorem dX6_putU_17 : decode cX6_putU 17 = .ok (.getfield 23, 3) := by decide +kernel
theorem dX6_putU_20 : decode cX6_putU 20 = .ok (.iload_n 1, 1) := by decide +kernel
theorem dX6_putU_21 : decode cX6_putU 21 = .ok (.iaload, 1) := by decide +kernel
theorem dX6_putU_22 : decode cX6_putU 22 = .ok (.iload_n 2, 1) := by decide +kernel
theorem dX6_putU_23 : decode cX6_putU 23 = .ok (.iadd, 1) := by decide +kernel
theorem dX6_putU_24 : decode cX6_putU 24 = .ok (.iload_n 2, 1) := by decide +kernel
theorem dX6_putU_25 : decode cX6_putU 25 = .ok (.aload_n 0, 1) := by decide +kernel
theorem dX6_putU_26 : decode cX6_putU 26 = .ok (.getfield 179, 3) := by decide +kernel
theorem dX6_putU_29 : decode cX6_putU 29 = .ok (.if_icmp .ge 12, 3) := by decide +kernel
theorem dX6_putU_32 : decode cX6_putU 32 = .ok (.aload_n 0, 1) := by decide +kernel
theorem dX6_putU_33 : decode cX6_putU 33 = .ok (.getfield 66, 3) := by decide +kernel
theorem dX6_putU_36 : decode cX6_putU 36 = .ok (.iload_n 2, 1) := by decide +kernel
theorem dX6_putU_37 : decode cX6_putU 37 = .ok (.iaload, 1) := by decide +kernel
theorem dX6_putU_38 : decode cX6_putU 38 = .ok (.goto 4, 3) := by decide +kernel
theorem dX6_putU_41 : decode cX6_putU 41 = .ok (.iconst 0, 1) := by decide +kernel
theorem dX6_putU_42 : decode cX6_putU 42 = .ok (.iastore, 1) := by decide +kernel
theorem dX6_putU_43 : decode cX6_putU 43 = .ok (.iinc 2 1, 3) := by decide +kernel
theorem dX6_putU_46 : decode cX6_putU 46 = .ok (.goto (-44), 3) := by decide +kernel
theorem dX6_putU_49 : decode cX6_putU 49 = .ok (.return_, 1) := by decide +kernel
theorem dX6_uToR_0 : decode cX6_uToR 0 = .ok (.aload_n 0, 1) := by decide +kernel
theorem dX6_uToR_1 : decode cX6_uToR 1 = .ok (.aload_n 0, 1) := by decide +kernel
theorem dX6_uToR_2 : decode cX6_uToR 2 = .ok (.getfield 179, 3) := by decide +kernel
theorem dX6_uToR_5 : decode cX6_uToR 5 = .ok (.putfield 200, 3) := by decide +kernel
theorem dX6_uToR_8 : decode cX6_uToR 8 = .ok (.iconst 0, 1) := by decide +kernel
theorem dX6_uToR_9 : decode cX6_uToR 9 = .ok (.istore_n 1, 1) := by decide +kernel
theorem dX6_uToR_10 : decode cX6_uToR 10 = .ok (.iload_n 1, 1) := by decide +kernel
theorem dX6_uToR_11 : decode cX6_uToR 11 = .ok (.aload_n 0, 1) := by decide +kernel
theorem dX6_uToR_12 : decode cX6_uToR 12 = .ok (.getfield 179, 3) := by decide +kernel
theorem dX6_uToR_15 : decode cX6_uToR 15 = .ok (.if_icmp .ge 21, 3) := by decide +kernel
theorem dX6_uToR_18 : decode cX6_uToR 18 = .ok (.aload_n 0, 1) := by decide +kernel
theorem dX6_uToR_19 : decode cX6_uToR 19 = .ok (.getfield 78, 3) := by decide +kernel
theorem dX6_uToR_22 : decode cX6_uToR 22 = .ok (.iload_n 1, 1) := by decide +kernel
theorem dX6_uToR_23 : decode cX6_uToR 23 = .ok (.aload_n 0, 1) := by decide +kernel
theorem dX6_uToR_24 : decode cX6_uToR 24 = .ok (.getfield 66, 3) := by decide +kernel
theorem dX6_uToR_27 : decode cX6_uToR 27 = .ok (.iload_n 1, 1) := by decide +kernel
theorem dX6_uToR_28 : decode cX6_uToR 28 = .ok (.iaload, 1) := by decide +kernel
theorem dX6_uToR_29 : decode cX6_uToR 29 = .ok (.iastore, 1) := by decide +kernel
theorem dX6_uToR_30 : decode cX6_uToR 30 = .ok (.iinc 1 1, 3) := by decide +kernel
theorem dX6_uToR_33 : decode cX6_uToR 33 = .ok (.goto (-23), 3) := by decide +kernel
theorem dX6_uToR_36 : decode cX6_uToR 36 = .ok (.return_, 1) := by decide +kernel
theorem dX6_reckon_0 : decode cX6_reckon 0 = .ok (.aload_n 0, 1) := by decide +kernel
theorem dX6_reckon_1 : decode cX6_reckon 1 = .ok (.getfield 54, 3) := by decide +kernel
theorem dX6_reckon_4 : decode cX6_reckon 4 = .ok (.iload_n 1, 1) := by decide +kernel
theorem dX6_reckon_5 : decode cX6_reckon 5 = .ok (.iaload, 1) := by decide +kernel
theorem dX6_reckon_6 : decode cX6_reckon 6 = .ok (.istore_n 2, 1) := by decide +kernel
theorem dX6_reckon_7 : decode cX6_reckon 7 = .ok (.aload_n 0, 1) := by decide +kernel
theorem dX6_reckon_8 : decode cX6_reckon 8 = .ok (.getfield 38, 3) := by decide +kernel
theorem dX6_reckon_11 : decode cX6_reckon 11 = .ok (.iload_n 1, 1) := by decide +kernel
theorem dX6_reckon_12 : decode cX6_reckon 12 = .ok (.iaload, 1) := by decide +kernel
theorem dX6_reckon_13 : decode cX6_reckon 13 = .ok (.tableswitch 203 0 2 #[27, 100, 190], 27) := by decide +kernel
theorem dX6_reckon_40 : decode cX6_reckon 40 = .ok (.aload_n 0, 1) := by decide +kernel
theorem dX6_reckon_41 : decode cX6_reckon 41 = .ok (.aload_n 0, 1) := by decide +kernel
theorem dX6_reckon_42 : decode cX6_reckon 42 = .ok (.getfield 41, 3) := by decide +kernel
theorem dX6_reckon_45 : decode cX6_reckon 45 = .ok (.iload_n 1, 1) := by decide +kernel
theorem dX6_reckon_46 : decode cX6_reckon 46 = .ok (.iaload, 1) := by decide +kernel
theorem dX6_reckon_47 : decode cX6_reckon 47 = .ok (.invokevirtual 203, 3) := by decide +kernel
theorem dX6_reckon_50 : decode cX6_reckon 50 = .ok (.aload_n 0, 1) := by decide +kernel
theorem dX6_reckon_51 : decode cX6_reckon 51 = .ok (.invokevirtual 206, 3) := by decide +kernel
theorem dX6_reckon_54 : decode cX6_reckon 54 = .ok (.aload_n 0, 1) := by decide +kernel
theorem dX6_reckon_55 : decode cX6_reckon 55 = .ok (.aload_n 0, 1) := by decide +kernel
theorem dX6_reckon_56 : decode cX6_reckon 56 = .ok (.getfield 44, 3) := by decide +kernel
theorem dX6_reckon_59 : decode cX6_reckon 59 = .ok (.iload_n 1, 1) := by decide +kernel
theorem dX6_reckon_60 : decode cX6_reckon 60 = .ok (.iaload, 1) := by decide +kernel
theorem dX6_reckon_61 : decode cX6_reckon 61 = .ok (.invokevirtual 203, 3) := by decide +kernel
theorem dX6_reckon_64 : decode cX6_reckon 64 = .ok (.aload_n 0, 1) := by decide +kernel
theorem dX6_reckon_65 : decode cX6_reckon 65 = .ok (.aload_n 0, 1) := by decide +kernel
theorem dX6_reckon_66 : decode cX6_reckon 66 = .ok (.getfield 179, 3) := by decide +kernel
theorem dX6_reckon_69 : decode cX6_reckon 69 = .ok (.putfield 197, 3) := by decide +kernel
theorem dX6_reckon_72 : decode cX6_reckon 72 = .ok (.iconst 0, 1) := by decide +kernel
theorem dX6_reckon_73 : decode cX6_reckon 73 = .ok (.istore_n 3, 1) := by decide +kernel
theorem dX6_reckon_74 : decode cX6_reckon 74 = .ok (.iload_n 3, 1) := by decide +kernel
theorem dX6_reckon_75 : decode cX6_reckon 75 = .ok (.aload_n 0, 1) := by decide +kernel
theorem dX6_reckon_76 : decode cX6_reckon 76 = .ok (.getfield 179, 3) := by decide +kernel
theorem dX6_reckon_79 : decode cX6_reckon 79 = .ok (.if_icmp .ge 21, 3) := by decide +kernel
theorem dX6_reckon_82 : decode cX6_reckon 82 = .ok (.aload_n 0, 1) := by decide +kernel
theorem dX6_reckon_83 : decode cX6_reckon 83 = .ok (.getfield 75, 3) := by decide +kernel
theorem dX6_reckon_86 : decode cX6_reckon 86 = .ok (.iload_n 3, 1) := by decide +kernel
theorem dX6_reckon_87 : decode cX6_reckon 87 = .ok (.aload_n 0, 1) := by decide +kernel
theorem dX6_reckon_88 : decode cX6_reckon 88 = .ok (.getfield 66, 3) := by decide +kernel
theorem dX6_reckon_91 : decode cX6_reckon 91 = .ok (.iload_n 3, 1) := by decide +kernel
theorem dX6_reckon_92 : decode cX6_reckon 92 = .ok (.iaload, 1) := by decide +kernel
theorem dX6_reckon_93 : decode cX6_reckon 93 = .ok (.iastore, 1) := by decide +kernel
theorem dX6_reckon_94 : decode cX6_reckon 94 = .ok (.iinc 3 1, 3) := by decide +kernel
theorem dX6_reckon_97 : decode cX6_reckon 97 = .ok (.goto (-23), 3) := by decide +kernel
theorem dX6_reckon_100 : decode cX6_reckon 100 = .ok (.aload_n 0, 1) := by decide +kernel
theorem dX6_reckon_101 : decode cX6_reckon 101 = .ok (.iconst 1, 1) := by decide +kernel
theorem dX6_reckon_102 : decode cX6_reckon 102 = .ok (.invokevirtual 209, 3) := by decide +kernel
theorem dX6_reckon_105 : decode cX6_reckon 105 = .ok (.aload_n 0, 1) := by decide +kernel
theorem dX6_reckon_106 : decode cX6_reckon 106 = .ok (.iload_n 2, 1) := by decide +kernel
theorem dX6_reckon_107 : decode cX6_reckon 107 = .ok (.invokevirtual 213, 3) := by decide +kernel
theorem dX6_reckon_110 : decode cX6_reckon 110 = .ok (.goto 165, 3) := by decide +kernel
theorem dX6_reckon_113 : decode cX6_reckon 113 = .ok (.aload_n 0, 1) := by decide +kernel
theorem dX6_reckon_114 : decode cX6_reckon 114 = .ok (.aload_n 0, 1) := by decide +kernel
theorem dX6_reckon_115 : decode cX6_reckon 115 = .ok (.getfield 41, 3) := by decide +kernel
theorem dX6_reckon_118 : decode cX6_reckon 118 = .ok (.iload_n 1, 1) := by decide +kernel
theorem dX6_reckon_119 : decode cX6_reckon 119 = .ok (.iaload, 1) := by decide +kernel
theorem dX6_reckon_120 : decode cX6_reckon 120 = .ok (.invokevirtual 203, 3) := by decide +kernel
theorem dX6_reckon_123 : decode cX6_reckon 123 = .ok (.aload_n 0, 1) := by decide +kernel
theorem dX6_reckon_124 : decode cX6_reckon 124 = .ok (.aload_n 0, 1) := by decide +kernel
theorem dX6_reckon_125 : decode cX6_reckon 125 = .ok (.getfield 44, 3) := by decide +kernel
theorem dX6_reckon_128 : decode cX6_reckon 128 = .ok (.iload_n 1, 1) := by decide +kernel
theorem dX6_reckon_129 : decode cX6_reckon 129 = .ok (.iaload, 1) := by decide +kernel
theorem dX6_reckon_130 : decode cX6_reckon 130 = .ok (.invokevirtual 216, 3) := by decide +kernel
theorem dX6_reckon_133 : decode cX6_reckon 133 = .ok (.aload_n 0, 1) := by decide +kernel
theorem dX6_reckon_134 : decode cX6_reckon 134 = .ok (.getfield 179, 3) := by decide +kernel
theorem dX6_reckon_137 : decode cX6_reckon 137 = .ok (.aload_n 0, 1) := by decide +kernel
theorem dX6_reckon_138 : decode cX6_reckon 138 = .ok (.getfield 182, 3) := by decide +kernel
theorem dX6_reckon_141 : decode cX6_reckon 141 = .ok (.isub, 1) := by decide +kernel
theorem dX6_reckon_142 : decode cX6_reckon 142 = .ok (.iconst 1, 1) := by decide +kernel
theorem dX6_reckon_143 : decode cX6_reckon 143 = .ok (.iadd, 1) := by decide +kernel
theorem dX6_reckon_144 : decode cX6_reckon 144 = .ok (.istore_n 3, 1) := by decide +kernel
theorem dX6_reckon_145 : decode cX6_reckon 145 = .ok (.aload_n 0, 1) := by decide +kernel
theorem dX6_reckon_146 : decode cX6_reckon 146 = .ok (.invokevirtual 219, 3) := by decide +kernel
theorem dX6_reckon_149 : decode cX6_reckon 149 = .ok (.iconst 0, 1) := by decide +kernel
theorem dX6_reckon_150 : decode cX6_reckon 150 = .ok (.istore 4, 2) := by decide +kernel
theorem dX6_reckon_152 : decode cX6_reckon 152 = .ok (.iload 4, 2) := by decide +kernel
theorem dX6_reckon_154 : decode cX6_reckon 154 = .ok (.aload_n 0, 1) := by decide +kernel
theorem dX6_reckon_155 : decode cX6_reckon 155 = .ok (.getfield 20, 3) := by decide +kernel
theorem dX6_reckon_158 : decode cX6_reckon 158 = .ok (.iload_n 2, 1) := by decide +kernel
theorem dX6_reckon_159 : decode cX6_reckon 159 = .ok (.iaload, 1) := by decide +kernel
theorem dX6_reckon_160 : decode cX6_reckon 160 = .ok (.if_icmp .ge 40, 3) := by decide +kernel
theorem dX6_reckon_163 : decode cX6_reckon 163 = .ok (.aload_n 0, 1) := by decide +kernel
theorem dX6_reckon_164 : decode cX6_reckon 164 = .ok (.getfield 7, 3) := by decide +kernel
theorem dX6_reckon_167 : decode cX6_reckon 167 = .ok (.aload_n 0, 1) := by decide +kernel
theorem dX6_reckon_168 : decode cX6_reckon 168 = .ok (.getfield 23, 3) := by decide +kernel
theorem dX6_reckon_171 : decode cX6_reckon 171 = .ok (.iload_n 2, 1) := by decide +kernel
theorem dX6_reckon_172 : decode cX6_reckon 172 = .ok (.iaload, 1) := by decide +kernel
theorem dX6_reckon_173 : decode cX6_reckon 173 = .ok (.iload 4, 2) := by decide +kernel
theorem dX6_reckon_175 : decode cX6_reckon 175 = .ok (.iadd, 1) := by decide +kernel
theorem dX6_reckon_176 : decode cX6_reckon 176 = .ok (.iload 4, 2) := by decide +kernel
theorem dX6_reckon_178 : decode cX6_reckon 178 = .ok (.iload_n 3, 1) := by decide +kernel
theorem dX6_reckon_179 : decode cX6_reckon 179 = .ok (.if_icmp .ge 13, 3) := by decide +kernel
theorem dX6_reckon_182 : decode cX6_reckon 182 = .ok (.aload_n 0, 1) := by decide +kernel
theorem dX6_reckon_183 : decode cX6_reckon 183 = .ok (.getfield 72, 3) := by decide +kernel
theorem dX6_reckon_186 : decode cX6_reckon 186 = .ok (.iload 4, 2) := by decide +kernel
theorem dX6_reckon_188 : decode cX6_reckon 188 = .ok (.iaload, 1) := by decide +kernel
theorem dX6_reckon_189 : decode cX6_reckon 189 = .ok (.goto 4, 3) := by decide +kernel
theorem dX6_reckon_192 : decode cX6_reckon 192 = .ok (.iconst 0, 1) := by decide +kernel
theorem dX6_reckon_193 : decode cX6_reckon 193 = .ok (.iastore, 1) := by decide +kernel
theorem dX6_reckon_194 : decode cX6_reckon 194 = .ok (.iinc 4 1, 3) := by decide +kernel
theorem dX6_reckon_197 : decode cX6_reckon 197 = .ok (.goto (-45), 3) := by decide +kernel
theorem dX6_reckon_200 : decode cX6_reckon 200 = .ok (.goto 75, 3) := by decide +kernel
theorem dX6_reckon_203 : decode cX6_reckon 203 = .ok (.aload_n 0, 1) := by decide +kernel
theorem dX6_reckon_204 : decode cX6_reckon 204 = .ok (.iload_n 1, 1) := by decide +kernel
theorem dX6_reckon_205 : decode cX6_reckon 205 = .ok (.invokevirtual 222, 3) := by decide +kernel
theorem dX6_reckon_208 : decode cX6_reckon 208 = .ok (.aload_n 0, 1) := by decide +kernel
theorem dX6_reckon_209 : decode cX6_reckon 209 = .ok (.iload_n 2, 1) := by decide +kernel
theorem dX6_reckon_210 : decode cX6_reckon 210 = .ok (.invokevirtual 213, 3) := by decide +kernel
theorem dX6_reckon_213 : decode cX6_reckon 213 = .ok (.goto 62, 3) := by decide +kernel
theorem dX6_reckon_216 : decode cX6_reckon 216 = .ok (.aload_n 0, 1) := by decide +kernel
theorem dX6_reckon_217 : decode cX6_reckon 217 = .ok (.iload_n 1, 1) := by decide +kernel
theorem dX6_reckon_218 : decode cX6_reckon 218 = .ok (.invokevirtual 225, 3) := by decide +kernel
theorem dX6_reckon_221 : decode cX6_reckon 221 = .ok (.iconst 0, 1) := by decide +kernel
theorem dX6_reckon_222 : decode cX6_reckon 222 = .ok (.istore 4, 2) := by decide +kernel
theorem dX6_reckon_224 : decode cX6_reckon 224 = .ok (.iload 4, 2) := by decide +kernel
theorem dX6_reckon_226 : decode cX6_reckon 226 = .ok (.aload_n 0, 1) := by decide +kernel
theorem dX6_reckon_227 : decode cX6_reckon 227 = .ok (.getfield 20, 3) := by decide +kernel
theorem dX6_reckon_230 : decode cX6_reckon 230 = .ok (.iload_n 2, 1) := by decide +kernel
theorem dX6_reckon_231 : decode cX6_reckon 231 = .ok (.iaload, 1) := by decide +kernel
theorem dX6_reckon_232 : decode cX6_reckon 232 = .ok (.if_icmp .ge 43, 3) := by decide +kernel
theorem dX6_reckon_235 : decode cX6_reckon 235 = .ok (.aload_n 0, 1) := by decide +kernel
theorem dX6_reckon_236 : decode cX6_reckon 236 = .ok (.getfield 7, 3) := by decide +kernel
theorem dX6_reckon_239 : decode cX6_reckon 239 = .ok (.aload_n 0, 1) := by decide +kernel
theorem dX6_reckon_240 : decode cX6_reckon 240 = .ok (.getfield 23, 3) := by decide +kernel
theorem dX6_reckon_243 : decode cX6_reckon 243 = .ok (.iload_n 2, 1) := by decide +kernel
theorem dX6_reckon_244 : decode cX6_reckon 244 = .ok (.iaload, 1) := by decide +kernel
theorem dX6_reckon_245 : decode cX6_reckon 245 = .ok (.iload 4, 2) := by decide +kernel
theorem dX6_reckon_247 : decode cX6_reckon 247 = .ok (.iadd, 1) := by decide +kernel
theorem dX6_reckon_248 : decode cX6_reckon 248 = .ok (.iload 4, 2) := by decide +kernel
theorem dX6_reckon_250 : decode cX6_reckon 250 = .ok (.aload_n 0, 1) := by decide +kernel
theorem dX6_reckon_251 : decode cX6_reckon 251 = .ok (.getfield 200, 3) := by decide +kernel
theorem dX6_reckon_254 : decode cX6_reckon 254 = .ok (.if_icmp .ge 13, 3) := by decide +kernel
theorem dX6_reckon_257 : decode cX6_reckon 257 = .ok (.aload_n 0, 1) := by decide +kernel
theorem dX6_reckon_258 : decode cX6_reckon 258 = .ok (.getfield 78, 3) := by decide +kernel
theorem dX6_reckon_261 : decode cX6_reckon 261 = .ok (.iload 4, 2) := by decide +kernel
theorem dX6_reckon_263 : decode cX6_reckon 263 = .ok (.iaload, 1) := by decide +kernel
theorem dX6_reckon_264 : decode cX6_reckon 264 = .ok (.goto 4, 3) := by decide +kernel
theorem dX6_reckon_267 : decode cX6_reckon 267 = .ok (.iconst 0, 1) := by decide +kernel
theorem dX6_reckon_268 : decode cX6_reckon 268 = .ok (.iastore, 1) := by decide +kernel
theorem dX6_reckon_269 : decode cX6_reckon 269 = .ok (.iinc 4 1, 3) := by decide +kernel
theorem dX6_reckon_272 : decode cX6_reckon 272 = .ok (.goto (-48), 3) := by decide +kernel
theorem dX6_reckon_275 : decode cX6_reckon 275 = .ok (.return_, 1) := by decide +kernel
theorem dX6_common_0 : decode cX6_common 0 = .ok (.aload_n 0, 1) := by decide +kernel
theorem dX6_common_1 : decode cX6_common 1 = .ok (.aload_n 0, 1) := by decide +kernel
theorem dX6_common_2 : decode cX6_common 2 = .ok (.getfield 41, 3) := by decide +kernel
theorem dX6_common_5 : decode cX6_common 5 = .ok (.iload_n 1, 1) := by decide +kernel
theorem dX6_common_6 : decode cX6_common 6 = .ok (.iaload, 1) := by decide +kernel
theorem dX6_common_7 : decode cX6_common 7 = .ok (.invokevirtual 203, 3) := by decide +kernel
theorem dX6_common_10 : decode cX6_common 10 = .ok (.aload_n 0, 1) := by decide +kernel
theorem dX6_common_11 : decode cX6_common 11 = .ok (.aload_n 0, 1) := by decide +kernel
theorem dX6_common_12 : decode cX6_common 12 = .ok (.getfield 44, 3) := by decide +kernel
theorem dX6_common_15 : decode cX6_common 15 = .ok (.iload_n 1, 1) := by decide +kernel
theorem dX6_common_16 : decode cX6_common 16 = .ok (.iaload, 1) := by decide +kernel
theorem dX6_common_17 : decode cX6_common 17 = .ok (.invokevirtual 216, 3) := by decide +kernel
theorem dX6_common_20 : decode cX6_common 20 = .ok (.aload_n 0, 1) := by decide +kernel
theorem dX6_common_21 : decode cX6_common 21 = .ok (.getfield 182, 3) := by decide +kernel
theorem dX6_common_24 : decode cX6_common 24 = .ok (.ifCond .le 116, 3) := by decide +kernel
theorem dX6_common_27 : decode cX6_common 27 = .ok (.aload_n 0, 1) := by decide +kernel
theorem dX6_common_28 : decode cX6_common 28 = .ok (.invokevirtual 219, 3) := by decide +kernel
theorem dX6_common_31 : decode cX6_common 31 = .ok (.aload_n 0, 1) := by decide +kernel
theorem dX6_common_32 : decode cX6_common 32 = .ok (.getfield 179, 3) := by decide +kernel
theorem dX6_common_35 : decode cX6_common 35 = .ok (.aload_n 0, 1) := by decide +kernel
theorem dX6_common_36 : decode cX6_common 36 = .ok (.getfield 182, 3) := by decide +kernel
theorem dX6_common_39 : decode cX6_common 39 = .ok (.if_icmp .le 10, 3) := by decide +kernel
theorem dX6_common_42 : decode cX6_common 42 = .ok (.aload_n 0, 1) := by decide +kernel
theorem dX6_common_43 : decode cX6_common 43 = .ok (.getfield 179, 3) := by decide +kernel
theorem dX6_common_46 : decode cX6_common 46 = .ok (.goto 7, 3) := by decide +kernel
theorem dX6_common_49 : decode cX6_common 49 = .ok (.aload_n 0, 1) := by decide +kernel
theorem dX6_common_50 : decode cX6_common 50 = .ok (.getfield 182, 3) := by decide +kernel
theorem dX6_common_53 : decode cX6_common 53 = .ok (.istore_n 2, 1) := by decide +kernel
theorem dX6_common_54 : decode cX6_common 54 = .ok (.iconst 0, 1) := by decide +kernel
theorem dX6_common_55 : decode cX6_common 55 = .ok (.istore_n 3, 1) := by decide +kernel
theorem dX6_common_56 : decode cX6_common 56 = .ok (.iload_n 3, 1) := by decide +kernel
theorem dX6_common_57 : decode cX6_common 57 = .ok (.iload_n 2, 1) := by decide +kernel
theorem dX6_common_58 : decode cX6_common 58 = .ok (.if_icmp .ge 61, 3) := by decide +kernel
theorem dX6_common_61 : decode cX6_common 61 = .ok (.iload_n 3, 1) := by decide +kernel
theorem dX6_common_62 : decode cX6_common 62 = .ok (.aload_n 0, 1) := by decide +kernel
theorem dX6_common_63 : decode cX6_common 63 = .ok (.getfield 182, 3) := by decide +kernel
theorem dX6_common_66 : decode cX6_common 66 = .ok (.if_icmp .ge 12, 3) := by decide +kernel
theorem dX6_common_69 : decode cX6_common 69 = .ok (.aload_n 0, 1) := by decide +kernel
theorem dX6_common_70 : decode cX6_common 70 = .ok (.getfield 69, 3) := by decide +kernel
theorem dX6_common_73 : decode cX6_common 73 = .ok (.iload_n 3, 1) := by decide +kernel
theorem dX6_common_74 : decode cX6_common 74 = .ok (.iaload, 1) := by decide +kernel
theorem dX6_common_75 : decode cX6_common 75 = .ok (.goto 4, 3) := by decide +kernel
theorem dX6_common_78 : decode cX6_common 78 = .ok (.iconst 0, 1) := by decide +kernel
theorem dX6_common_79 : decode cX6_common 79 = .ok (.istore 4, 2) := by decide +kernel
theorem dX6_common_81 : decode cX6_common 81 = .ok (.aload_n 0, 1) := by decide +kernel
theorem dX6_common_82 : decode cX6_common 82 = .ok (.getfield 69, 3) := by decide +kernel
theorem dX6_common_85 : decode cX6_common 85 = .ok (.iload_n 3, 1) := by decide +kernel
theorem dX6_common_86 : decode cX6_common 86 = .ok (.iload_n 3, 1) := by decide +kernel
theorem dX6_common_87 : decode cX6_common 87 = .ok (.aload_n 0, 1) := by decide +kernel
theorem dX6_common_88 : decode cX6_common 88 = .ok (.getfield 179, 3) := by decide +kernel
theorem dX6_common_91 : decode cX6_common 91 = .ok (.if_icmp .ge 12, 3) := by decide +kernel
theorem dX6_common_94 : decode cX6_common 94 = .ok (.aload_n 0, 1) := by decide +kernel
theorem dX6_common_95 : decode cX6_common 95 = .ok (.getfield 66, 3) := by decide +kernel
theorem dX6_common_98 : decode cX6_common 98 = .ok (.iload_n 3, 1) := by decide +kernel
theorem dX6_common_99 : decode cX6_common 99 = .ok (.iaload, 1) := by decide +kernel
theorem dX6_common_100 : decode cX6_common 100 = .ok (.goto 4, 3) := by decide +kernel
theorem dX6_common_103 : decode cX6_common 103 = .ok (.iconst 0, 1) := by decide +kernel
theorem dX6_common_104 : decode cX6_common 104 = .ok (.iastore, 1) := by decide +kernel
theorem dX6_common_105 : decode cX6_common 105 = .ok (.aload_n 0, 1) := by decide +kernel
theorem dX6_common_106 : decode cX6_common 106 = .ok (.getfield 66, 3) := by decide +kernel
theorem dX6_common_109 : decode cX6_common 109 = .ok (.iload_n 3, 1) := by decide +kernel
theorem dX6_common_110 : decode cX6_common 110 = .ok (.iload 4, 2) := by decide +kernel
theorem dX6_common_112 : decode cX6_common 112 = .ok (.iastore, 1) := by decide +kernel
theorem dX6_common_113 : decode cX6_common 113 = .ok (.iinc 3 1, 3) := by decide +kernel
theorem dX6_common_116 : decode cX6_common 116 = .ok (.goto (-60), 3) := by decide +kernel
theorem dX6_common_119 : decode cX6_common 119 = .ok (.aload_n 0, 1) := by decide +kernel
theorem dX6_common_120 : decode cX6_common 120 = .ok (.getfield 179, 3) := by decide +kernel
theorem dX6_common_123 : decode cX6_common 123 = .ok (.istore_n 3, 1) := by decide +kernel
theorem dX6_common_124 : decode cX6_common 124 = .ok (.aload_n 0, 1) := by decide +kernel
theorem dX6_common_125 : decode cX6_common 125 = .ok (.aload_n 0, 1) := by decide +kernel
theorem dX6_common_126 : decode cX6_common 126 = .ok (.getfield 182, 3) := by decide +kernel
theorem dX6_common_129 : decode cX6_common 129 = .ok (.putfield 179, 3) := by decide +kernel
theorem dX6_common_132 : decode cX6_common 132 = .ok (.aload_n 0, 1) := by decide +kernel
theorem dX6_common_133 : decode cX6_common 133 = .ok (.iload_n 3, 1) := by decide +kernel
theorem dX6_common_134 : decode cX6_common 134 = .ok (.putfield 182, 3) := by decide +kernel
theorem dX6_common_137 : decode cX6_common 137 = .ok (.goto (-117), 3) := by decide +kernel
theorem dX6_common_140 : decode cX6_common 140 = .ok (.return_, 1) := by decide +kernel
theorem dX6_power_0 : decode cX6_power 0 = .ok (.aload_n 0, 1) := by decide +kernel
theorem dX6_power_1 : decode cX6_power 1 = .ok (.aload_n 0, 1) := by decide +kernel
theorem dX6_power_2 : decode cX6_power 2 = .ok (.getfield 41, 3) := by decide +kernel
theorem dX6_power_5 : decode cX6_power 5 = .ok (.iload_n 1, 1) := by decide +kernel
theorem dX6_power_6 : decode cX6_power 6 = .ok (.iaload, 1) := by decide +kernel
theorem dX6_power_7 : decode cX6_power 7 = .ok (.invokevirtual 203, 3) := by decide +kernel
theorem dX6_power_10 : decode cX6_power 10 = .ok (.aload_n 0, 1) := by decide +kernel
theorem dX6_power_11 : decode cX6_power 11 = .ok (.aload_n 0, 1) := by decide +kernel
theorem dX6_power_12 : decode cX6_power 12 = .ok (.getfield 47, 3) := by decide +kernel
theorem dX6_power_15 : decode cX6_power 15 = .ok (.iload_n 1, 1) := by decide +kernel
theorem dX6_power_16 : decode cX6_power 16 = .ok (.iaload, 1) := by decide +kernel
theorem dX6_power_17 : decode cX6_power 17 = .ok (.invokevirtual 216, 3) := by decide +kernel
theorem dX6_power_20 : decode cX6_power 20 = .ok (.aload_n 0, 1) := by decide +kernel
theorem dX6_power_21 : decode cX6_power 21 = .ok (.invokevirtual 219, 3) := by decide +kernel
theorem dX6_power_24 : decode cX6_power 24 = .ok (.aload_n 0, 1) := by decide +kernel
theorem dX6_power_25 : decode cX6_power 25 = .ok (.aload_n 0, 1) := by decide +kernel
theorem dX6_power_26 : decode cX6_power 26 = .ok (.getfield 179, 3) := by decide +kernel
theorem dX6_power_29 : decode cX6_power 29 = .ok (.putfield 197, 3) := by decide +kernel
theorem dX6_power_32 : decode cX6_power 32 = .ok (.iconst 0, 1) := by decide +kernel
theorem dX6_power_33 : decode cX6_power 33 = .ok (.istore_n 2, 1) := by decide +kernel
theorem dX6_power_34 : decode cX6_power 34 = .ok (.iload_n 2, 1) := by decide +kernel
theorem dX6_power_35 : decode cX6_power 35 = .ok (.aload_n 0, 1) := by decide +kernel
theorem dX6_power_36 : decode cX6_power 36 = .ok (.getfield 179, 3) := by decide +kernel
theorem dX6_power_39 : decode cX6_power 39 = .ok (.if_icmp .ge 21, 3) := by decide +kernel
theorem dX6_power_42 : decode cX6_power 42 = .ok (.aload_n 0, 1) := by decide +kernel
theorem dX6_power_43 : decode cX6_power 43 = .ok (.getfield 75, 3) := by decide +kernel
theorem dX6_power_46 : decode cX6_power 46 = .ok (.iload_n 2, 1) := by decide +kernel
theorem dX6_power_47 : decode cX6_power 47 = .ok (.aload_n 0, 1) := by decide +kernel
theorem dX6_power_48 : decode cX6_power 48 = .ok (.getfield 66, 3) := by decide +kernel
theorem dX6_power_51 : decode cX6_power 51 = .ok (.iload_n 2, 1) := by decide +kernel
theorem dX6_power_52 : decode cX6_power 52 = .ok (.iaload, 1) := by decide +kernel
theorem dX6_power_53 : decode cX6_power 53 = .ok (.iastore, 1) := by decide +kernel
theorem dX6_power_54 : decode cX6_power 54 = .ok (.iinc 2 1, 3) := by decide +kernel
theorem dX6_power_57 : decode cX6_power 57 = .ok (.goto (-23), 3) := by decide +kernel
theorem dX6_power_60 : decode cX6_power 60 = .ok (.aload_n 0, 1) := by decide +kernel
theorem dX6_power_61 : decode cX6_power 61 = .ok (.iconst 1, 1) := by decide +kernel
theorem dX6_power_62 : decode cX6_power 62 = .ok (.putfield 200, 3) := by decide +kernel
theorem dX6_power_65 : decode cX6_power 65 = .ok (.aload_n 0, 1) := by decide +kernel
theorem dX6_power_66 : decode cX6_power 66 = .ok (.getfield 78, 3) := by decide +kernel
theorem dX6_power_69 : decode cX6_power 69 = .ok (.iconst 0, 1) := by decide +kernel
theorem dX6_power_70 : decode cX6_power 70 = .ok (.iconst 1, 1) := by decide +kernel
theorem dX6_power_71 : decode cX6_power 71 = .ok (.iastore, 1) := by decide +kernel
theorem dX6_power_72 : decode cX6_power 72 = .ok (.aload_n 0, 1) := by decide +kernel
theorem dX6_power_73 : decode cX6_power 73 = .ok (.getfield 182, 3) := by decide +kernel
theorem dX6_power_76 : decode cX6_power 76 = .ok (.iconst 1, 1) := by decide +kernel
theorem dX6_power_77 : decode cX6_power 77 = .ok (.if_icmp .ne 18, 3) := by decide +kernel
theorem dX6_power_80 : decode cX6_power 80 = .ok (.aload_n 0, 1) := by decide +kernel
theorem dX6_power_81 : decode cX6_power 81 = .ok (.getfield 69, 3) := by decide +kernel
theorem dX6_power_84 : decode cX6_power 84 = .ok (.iconst 0, 1) := by decide +kernel
theorem dX6_power_85 : decode cX6_power 85 = .ok (.iaload, 1) := by decide +kernel
theorem dX6_power_86 : decode cX6_power 86 = .ok (.iconst 1, 1) := by decide +kernel
theorem dX6_power_87 : decode cX6_power 87 = .ok (.if_icmp .ne 8, 3) := by decide +kernel
theorem dX6_power_90 : decode cX6_power 90 = .ok (.aload_n 0, 1) := by decide +kernel
theorem dX6_power_91 : decode cX6_power 91 = .ok (.iconst 0, 1) := by decide +kernel
theorem dX6_power_92 : decode cX6_power 92 = .ok (.putfield 200, 3) := by decide +kernel
theorem dX6_power_95 : decode cX6_power 95 = .ok (.aload_n 0, 1) := by decide +kernel
theorem dX6_power_96 : decode cX6_power 96 = .ok (.getfield 44, 3) := by decide +kernel
theorem dX6_power_99 : decode cX6_power 99 = .ok (.iload_n 1, 1) := by decide +kernel
theorem dX6_power_100 : decode cX6_power 100 = .ok (.iaload, 1) := by decide +kernel
theorem dX6_power_101 : decode cX6_power 101 = .ok (.istore_n 2, 1) := by decide +kernel
theorem dX6_power_102 : decode cX6_power 102 = .ok (.bipush 31, 2) := by decide +kernel
theorem dX6_power_104 : decode cX6_power 104 = .ok (.aload_n 0, 1) := by decide +kernel
theorem dX6_power_105 : decode cX6_power 105 = .ok (.iload_n 2, 1) := by decide +kernel
theorem dX6_power_106 : decode cX6_power 106 = .ok (.invokevirtual 146, 3) := by decide +kernel
theorem dX6_power_109 : decode cX6_power 109 = .ok (.imul, 1) := by decide +kernel
theorem dX6_power_110 : decode cX6_power 110 = .ok (.iconst 1, 1) := by decide +kernel
theorem dX6_power_111 : decode cX6_power 111 = .ok (.isub, 1) := by decide +kernel
theorem dX6_power_112 : decode cX6_power 112 = .ok (.istore_n 3, 1) := by decide +kernel
theorem dX6_power_113 : decode cX6_power 113 = .ok (.iload_n 3, 1) := by decide +kernel
theorem dX6_power_114 : decode cX6_power 114 = .ok (.ifCond .lt 69, 3) := by decide +kernel
theorem dX6_power_117 : decode cX6_power 117 = .ok (.aload_n 0, 1) := by decide +kernel
theorem dX6_power_118 : decode cX6_power 118 = .ok (.getfield 200, 3) := by decide +kernel
theorem dX6_power_121 : decode cX6_power 121 = .ok (.ifCond .le 62, 3) := by decide +kernel
theorem dX6_power_124 : decode cX6_power 124 = .ok (.aload_n 0, 1) := by decide +kernel
theorem dX6_power_125 : decode cX6_power 125 = .ok (.iconst 0, 1) := by decide +kernel
theorem dX6_power_126 : decode cX6_power 126 = .ok (.invokevirtual 209, 3) := by decide +kernel
theorem dX6_power_129 : decode cX6_power 129 = .ok (.aload_n 0, 1) := by decide +kernel
theorem dX6_power_130 : decode cX6_power 130 = .ok (.invokevirtual 219, 3) := by decide +kernel
theorem dX6_power_133 : decode cX6_power 133 = .ok (.aload_n 0, 1) := by decide +kernel
theorem dX6_power_134 : decode cX6_power 134 = .ok (.invokevirtual 206, 3) := by decide +kernel
theorem dX6_power_137 : decode cX6_power 137 = .ok (.aload_n 0, 1) := by decide +kernel
theorem dX6_power_138 : decode cX6_power 138 = .ok (.getfield 7, 3) := by decide +kernel
theorem dX6_power_141 : decode cX6_power 141 = .ok (.aload_n 0, 1) := by decide +kernel
theorem dX6_power_142 : decode cX6_power 142 = .ok (.getfield 23, 3) := by decide +kernel
theorem dX6_power_145 : decode cX6_power 145 = .ok (.iload_n 2, 1) := by decide +kernel
theorem dX6_power_146 : decode cX6_power 146 = .ok (.iaload, 1) := by decide +kernel
theorem dX6_power_147 : decode cX6_power 147 = .ok (.iload_n 3, 1) := by decide +kernel
theorem dX6_power_148 : decode cX6_power 148 = .ok (.bipush 31, 2) := by decide +kernel
theorem dX6_power_150 : decode cX6_power 150 = .ok (.idiv, 1) := by decide +kernel
theorem dX6_power_151 : decode cX6_power 151 = .ok (.iadd, 1) := by decide +kernel
theorem dX6_power_152 : decode cX6_power 152 = .ok (.iaload, 1) := by decide +kernel
theorem dX6_power_153 : decode cX6_power 153 = .ok (.iload_n 3, 1) := by decide +kernel
theorem dX6_power_154 : decode cX6_power 154 = .ok (.bipush 31, 2) := by decide +kernel
theorem dX6_power_156 : decode cX6_power 156 = .ok (.irem, 1) := by decide +kernel
theorem dX6_power_157 : decode cX6_power 157 = .ok (.ishr, 1) := by decide +kernel
theorem dX6_power_158 : decode cX6_power 158 = .ok (.iconst 1, 1) := by decide +kernel
theorem dX6_power_159 : decode cX6_power 159 = .ok (.iand, 1) := by decide +kernel
theorem dX6_power_160 : decode cX6_power 160 = .ok (.iconst 1, 1) := by decide +kernel
theorem dX6_power_161 : decode cX6_power 161 = .ok (.if_icmp .ne 16, 3) := by decide +kernel
theorem dX6_power_164 : decode cX6_power 164 = .ok (.aload_n 0, 1) := by decide +kernel
theorem dX6_power_165 : decode cX6_power 165 = .ok (.iconst 1, 1) := by decide +kernel
theorem dX6_power_166 : decode cX6_power 166 = .ok (.invokevirtual 209, 3) := by decide +kernel
theorem dX6_power_169 : decode cX6_power 169 = .ok (.aload_n 0, 1) := by decide +kernel
theorem dX6_power_170 : decode cX6_power 170 = .ok (.invokevirtual 219, 3) := by decide +kernel
theorem dX6_power_173 : decode cX6_power 173 = .ok (.aload_n 0, 1) := by decide +kernel
theorem dX6_power_174 : decode cX6_power 174 = .ok (.invokevirtual 206, 3) := by decide +kernel
theorem dX6_power_177 : decode cX6_power 177 = .ok (.iinc 3 (-1), 3) := by decide +kernel
theorem dX6_power_180 : decode cX6_power 180 = .ok (.goto (-67), 3) := by decide +kernel
theorem dX6_power_183 : decode cX6_power 183 = .ok (.return_, 1) := by decide +kernel
theorem dJ9_max_7cf53_0 : decode cJ9_max_7cf53 0 = .ok (.iload_n 0, 1) := by decide +kernel
theorem dJ9_max_7cf53_1 : decode cJ9_max_7cf53 1 = .ok (.iload_n 1, 1) := by decide +kernel
theorem dJ9_max_7cf53_2 : decode cJ9_max_7cf53 2 = .ok (.if_icmp .lt 7, 3) := by decide +kernel
theorem dJ9_max_7cf53_5 : decode cJ9_max_7cf53 5 = .ok (.iload_n 0, 1) := by decide +kernel
theorem dJ9_max_7cf53_6 : decode cJ9_max_7cf53 6 = .ok (.goto 4, 3) := by decide +kernel
theorem dJ9_max_7cf53_9 : decode cJ9_max_7cf53 9 = .ok (.iload_n 1, 1) := by decide +kernel
theorem dJ9_max_7cf53_10 : decode cJ9_max_7cf53 10 = .ok (.ireturn, 1) := by decide +kernel
theorem dJ9_max_f86c9_0 : decode cJ9_max_f86c9 0 = .ok (.lload_n 0, 1) := by decide +kernel
theorem dJ9_max_f86c9_1 : decode cJ9_max_f86c9 1 = .ok (.lload_n 2, 1) := by decide +kernel
theorem dJ9_max_f86c9_2 : decode cJ9_max_f86c9 2 = .ok (.lcmp, 1) := by decide +kernel
theorem dJ9_max_f86c9_3 : decode cJ9_max_f86c9 3 = .ok (.ifCond .lt 7, 3) := by decide +kernel
theorem dJ9_max_f86c9_6 : decode cJ9_max_f86c9 6 = .ok (.lload_n 0, 1) := by decide +kernel
theorem dJ9_max_f86c9_7 : decode cJ9_max_f86c9 7 = .ok (.goto 4, 3) := by decide +kernel
theorem dJ9_max_f86c9_10 : decode cJ9_max_f86c9 10 = .ok (.lload_n 2, 1) := by decide +kernel
theorem dJ9_max_f86c9_11 : decode cJ9_max_f86c9 11 = .ok (.lreturn, 1) := by decide +kernel
theorem dJ9_min_7cf53_0 : decode cJ9_min_7cf53 0 = .ok (.iload_n 0, 1) := by decide +kernel
theorem dJ9_min_7cf53_1 : decode cJ9_min_7cf53 1 = .ok (.iload_n 1, 1) := by decide +kernel
theorem dJ9_min_7cf53_2 : decode cJ9_min_7cf53 2 = .ok (.if_icmp .gt 7, 3) := by decide +kernel
theorem dJ9_min_7cf53_5 : decode cJ9_min_7cf53 5 = .ok (.iload_n 0, 1) := by decide +kernel
theorem dJ9_min_7cf53_6 : decode cJ9_min_7cf53 6 = .ok (.goto 4, 3) := by decide +kernel
theorem dJ9_min_7cf53_9 : decode cJ9_min_7cf53 9 = .ok (.iload_n 1, 1) := by decide +kernel
theorem dJ9_min_7cf53_10 : decode cJ9_min_7cf53 10 = .ok (.ireturn, 1) := by decide +kernel
theorem dJ7_rangeCheck_23922_0 : decode cJ7_rangeCheck_23922 0 = .ok (.iload_n 1, 1) := by decide +kernel
theorem dJ7_rangeCheck_23922_1 : decode cJ7_rangeCheck_23922 1 = .ok (.iload_n 2, 1) := by decide +kernel
theorem dJ7_rangeCheck_23922_2 : decode cJ7_rangeCheck_23922 2 = .ok (.if_icmp .le 44, 3) := by decide +kernel
theorem dJ7_rangeCheck_23922_5 : decode cJ7_rangeCheck_23922 5 = .ok (.new 43, 3) := by decide +kernel
theorem dJ7_rangeCheck_23922_8 : decode cJ7_rangeCheck_23922 8 = .ok (.dup, 1) := by decide +kernel
theorem dJ7_rangeCheck_23922_9 : decode cJ7_rangeCheck_23922 9 = .ok (.new 45, 3) := by decide +kernel
theorem dJ7_rangeCheck_23922_12 : decode cJ7_rangeCheck_23922 12 = .ok (.dup, 1) := by decide +kernel
theorem dJ7_rangeCheck_23922_13 : decode cJ7_rangeCheck_23922 13 = .ok (.invokespecial 47, 3) := by decide +kernel
theorem dJ7_rangeCheck_23922_16 : decode cJ7_rangeCheck_23922 16 = .ok (.ldc 48, 2) := by decide +kernel
theorem dJ7_rangeCheck_23922_18 : decode cJ7_rangeCheck_23922 18 = .ok (.invokevirtual 50, 3) := by decide +kernel
theorem dJ7_rangeCheck_23922_21 : decode cJ7_rangeCheck_23922 21 = .ok (.iload_n 1, 1) := by decide +kernel
theorem dJ7_rangeCheck_23922_22 : decode cJ7_rangeCheck_23922 22 = .ok (.invokevirtual 54, 3) := by decide +kernel
theorem dJ7_rangeCheck_23922_25 : decode cJ7_rangeCheck_23922 25 = .ok (.ldc 57, 2) := by decide +kernel
theorem dJ7_rangeCheck_23922_27 : decode cJ7_rangeCheck_23922 27 = .ok (.invokevirtual 50, 3) := by decide +kernel
theorem dJ7_rangeCheck_23922_30 : decode cJ7_rangeCheck_23922 30 = .ok (.iload_n 2, 1) := by decide +kernel
theorem dJ7_rangeCheck_23922_31 : decode cJ7_rangeCheck_23922 31 = .ok (.invokevirtual 54, 3) := by decide +kernel
theorem dJ7_rangeCheck_23922_34 : decode cJ7_rangeCheck_23922 34 = .ok (.ldc 59, 2) := by decide +kernel
theorem dJ7_rangeCheck_23922_36 : decode cJ7_rangeCheck_23922 36 = .ok (.invokevirtual 50, 3) := by decide +kernel
theorem dJ7_rangeCheck_23922_39 : decode cJ7_rangeCheck_23922 39 = .ok (.invokevirtual 61, 3) := by decide +kernel
theorem dJ7_rangeCheck_23922_42 : decode cJ7_rangeCheck_23922 42 = .ok (.invokespecial 65, 3) := by decide +kernel
theorem dJ7_rangeCheck_23922_45 : decode cJ7_rangeCheck_23922 45 = .ok (.athrow, 1) := by decide +kernel
theorem dJ7_rangeCheck_23922_46 : decode cJ7_rangeCheck_23922 46 = .ok (.iload_n 1, 1) := by decide +kernel
theorem dJ7_rangeCheck_23922_47 : decode cJ7_rangeCheck_23922 47 = .ok (.ifCond .ge 12, 3) := by decide +kernel
theorem dJ7_rangeCheck_23922_50 : decode cJ7_rangeCheck_23922 50 = .ok (.new 68, 3) := by decide +kernel
theorem dJ7_rangeCheck_23922_53 : decode cJ7_rangeCheck_23922 53 = .ok (.dup, 1) := by decide +kernel
theorem dJ7_rangeCheck_23922_54 : decode cJ7_rangeCheck_23922 54 = .ok (.iload_n 1, 1) := by decide +kernel
theorem dJ7_rangeCheck_23922_55 : decode cJ7_rangeCheck_23922 55 = .ok (.invokespecial 70, 3) := by decide +kernel
theorem dJ7_rangeCheck_23922_58 : decode cJ7_rangeCheck_23922 58 = .ok (.athrow, 1) := by decide +kernel
theorem dJ7_rangeCheck_23922_59 : decode cJ7_rangeCheck_23922 59 = .ok (.iload_n 2, 1) := by decide +kernel
theorem dJ7_rangeCheck_23922_60 : decode cJ7_rangeCheck_23922 60 = .ok (.iload_n 0, 1) := by decide +kernel
theorem dJ7_rangeCheck_23922_61 : decode cJ7_rangeCheck_23922 61 = .ok (.if_icmp .le 12, 3) := by decide +kernel
theorem dJ7_rangeCheck_23922_64 : decode cJ7_rangeCheck_23922 64 = .ok (.new 68, 3) := by decide +kernel
theorem dJ7_rangeCheck_23922_67 : decode cJ7_rangeCheck_23922 67 = .ok (.dup, 1) := by decide +kernel
theorem dJ7_rangeCheck_23922_68 : decode cJ7_rangeCheck_23922 68 = .ok (.iload_n 2, 1) := by decide +kernel
theorem dJ7_rangeCheck_23922_69 : decode cJ7_rangeCheck_23922 69 = .ok (.invokespecial 70, 3) := by decide +kernel
theorem dJ7_rangeCheck_23922_72 : decode cJ7_rangeCheck_23922 72 = .ok (.athrow, 1) := by decide +kernel
theorem dJ7_rangeCheck_23922_73 : decode cJ7_rangeCheck_23922 73 = .ok (.return_, 1) := by decide +kernel
theorem dJ7_fill_53178_0 : decode cJ7_fill_53178 0 = .ok (.iconst 0, 1) := by decide +kernel
theorem dJ7_fill_53178_1 : decode cJ7_fill_53178 1 = .ok (.istore_n 2, 1) := by decide +kernel
theorem dJ7_fill_53178_2 : decode cJ7_fill_53178 2 = .ok (.aload_n 0, 1) := by decide +kernel
theorem dJ7_fill_53178_3 : decode cJ7_fill_53178 3 = .ok (.arraylength, 1) := by decide +kernel
theorem dJ7_fill_53178_4 : decode cJ7_fill_53178 4 = .ok (.istore_n 3, 1) := by decide +kernel
theorem dJ7_fill_53178_5 : decode cJ7_fill_53178 5 = .ok (.iload_n 2, 1) := by decide +kernel
theorem dJ7_fill_53178_6 : decode cJ7_fill_53178 6 = .ok (.iload_n 3, 1) := by decide +kernel
theorem dJ7_fill_53178_7 : decode cJ7_fill_53178 7 = .ok (.if_icmp .ge 13, 3) := by decide +kernel
theorem dJ7_fill_53178_10 : decode cJ7_fill_53178 10 = .ok (.aload_n 0, 1) := by decide +kernel
theorem dJ7_fill_53178_11 : decode cJ7_fill_53178 11 = .ok (.iload_n 2, 1) := by decide +kernel
theorem dJ7_fill_53178_12 : decode cJ7_fill_53178 12 = .ok (.iload_n 1, 1) := by decide +kernel
theorem dJ7_fill_53178_13 : decode cJ7_fill_53178 13 = .ok (.iastore, 1) := by decide +kernel
theorem dJ7_fill_53178_14 : decode cJ7_fill_53178 14 = .ok (.iinc 2 1, 3) := by decide +kernel
theorem dJ7_fill_53178_17 : decode cJ7_fill_53178 17 = .ok (.goto (-12), 3) := by decide +kernel
theorem dJ7_fill_53178_20 : decode cJ7_fill_53178 20 = .ok (.return_, 1) := by decide +kernel
theorem dJ7_fill_fda19_0 : decode cJ7_fill_fda19 0 = .ok (.aload_n 0, 1) := by decide +kernel
theorem dJ7_fill_fda19_1 : decode cJ7_fill_fda19 1 = .ok (.arraylength, 1) := by decide +kernel
theorem dJ7_fill_fda19_2 : decode cJ7_fill_fda19 2 = .ok (.iload_n 1, 1) := by decide +kernel
theorem dJ7_fill_fda19_3 : decode cJ7_fill_fda19 3 = .ok (.iload_n 2, 1) := by decide +kernel
theorem dJ7_fill_fda19_4 : decode cJ7_fill_fda19 4 = .ok (.invokestatic 13, 3) := by decide +kernel
theorem dJ7_fill_fda19_7 : decode cJ7_fill_fda19 7 = .ok (.iload_n 1, 1) := by decide +kernel
theorem dJ7_fill_fda19_8 : decode cJ7_fill_fda19 8 = .ok (.istore 4, 2) := by decide +kernel
theorem dJ7_fill_fda19_10 : decode cJ7_fill_fda19 10 = .ok (.iload 4, 2) := by decide +kernel
theorem dJ7_fill_fda19_12 : decode cJ7_fill_fda19 12 = .ok (.iload_n 2, 1) := by decide +kernel
theorem dJ7_fill_fda19_13 : decode cJ7_fill_fda19 13 = .ok (.if_icmp .ge 14, 3) := by decide +kernel
theorem dJ7_fill_fda19_16 : decode cJ7_fill_fda19 16 = .ok (.aload_n 0, 1) := by decide +kernel
theorem dJ7_fill_fda19_17 : decode cJ7_fill_fda19 17 = .ok (.iload 4, 2) := by decide +kernel
theorem dJ7_fill_fda19_19 : decode cJ7_fill_fda19 19 = .ok (.iload_n 3, 1) := by decide +kernel
theorem dJ7_fill_fda19_20 : decode cJ7_fill_fda19 20 = .ok (.iastore, 1) := by decide +kernel
theorem dJ7_fill_fda19_21 : decode cJ7_fill_fda19 21 = .ok (.iinc 4 1, 3) := by decide +kernel
theorem dJ7_fill_fda19_24 : decode cJ7_fill_fda19 24 = .ok (.goto (-14), 3) := by decide +kernel
theorem dJ7_fill_fda19_27 : decode cJ7_fill_fda19 27 = .ok (.return_, 1) := by decide +kernel
theorem dL_cell_0 : decode cL_cell 0 = .ok (.iload_n 1, 1) := by decide +kernel
theorem dL_cell_1 : decode cL_cell 1 = .ok (.aload_n 0, 1) := by decide +kernel
theorem dL_cell_2 : decode cL_cell 2 = .ok (.arraylength, 1) := by decide +kernel
theorem dL_cell_3 : decode cL_cell 3 = .ok (.if_icmp .ge 9, 3) := by decide +kernel
theorem dL_cell_6 : decode cL_cell 6 = .ok (.aload_n 0, 1) := by decide +kernel
theorem dL_cell_7 : decode cL_cell 7 = .ok (.iload_n 1, 1) := by decide +kernel
theorem dL_cell_8 : decode cL_cell 8 = .ok (.iaload, 1) := by decide +kernel
theorem dL_cell_9 : decode cL_cell 9 = .ok (.goto 4, 3) := by decide +kernel
theorem dL_cell_12 : decode cL_cell 12 = .ok (.iconst 0, 1) := by decide +kernel
theorem dL_cell_13 : decode cL_cell 13 = .ok (.ireturn, 1) := by decide +kernel
theorem dL_law_0 : decode cL_law 0 = .ok (.new 7, 3) := by decide +kernel
theorem dL_law_3 : decode cL_law 3 = .ok (.dup, 1) := by decide +kernel
theorem dL_law_4 : decode cL_law 4 = .ok (.aload_n 0, 1) := by decide +kernel
theorem dL_law_5 : decode cL_law 5 = .ok (.iconst 0, 1) := by decide +kernel
theorem dL_law_6 : decode cL_law 6 = .ok (.invokestatic 9, 3) := by decide +kernel
theorem dL_law_9 : decode cL_law 9 = .ok (.aload_n 0, 1) := by decide +kernel
theorem dL_law_10 : decode cL_law 10 = .ok (.iconst 1, 1) := by decide +kernel
theorem dL_law_11 : decode cL_law 11 = .ok (.invokestatic 9, 3) := by decide +kernel
theorem dL_law_14 : decode cL_law 14 = .ok (.aload_n 0, 1) := by decide +kernel
theorem dL_law_15 : decode cL_law 15 = .ok (.iconst 2, 1) := by decide +kernel
theorem dL_law_16 : decode cL_law 16 = .ok (.invokestatic 9, 3) := by decide +kernel
theorem dL_law_19 : decode cL_law 19 = .ok (.aload_n 0, 1) := by decide +kernel
theorem dL_law_20 : decode cL_law 20 = .ok (.iconst 3, 1) := by decide +kernel
theorem dL_law_21 : decode cL_law 21 = .ok (.invokestatic 9, 3) := by decide +kernel
theorem dL_law_24 : decode cL_law 24 = .ok (.invokespecial 15, 3) := by decide +kernel
theorem dL_law_27 : decode cL_law 27 = .ok (.astore_n 1, 1) := by decide +kernel
theorem dL_law_28 : decode cL_law 28 = .ok (.new 18, 3) := by decide +kernel
theorem dL_law_31 : decode cL_law 31 = .ok (.dup, 1) := by decide +kernel
theorem dL_law_32 : decode cL_law 32 = .ok (.aload_n 0, 1) := by decide +kernel
theorem dL_law_33 : decode cL_law 33 = .ok (.iconst 0, 1) := by decide +kernel
theorem dL_law_34 : decode cL_law 34 = .ok (.invokestatic 9, 3) := by decide +kernel
theorem dL_law_37 : decode cL_law 37 = .ok (.aload_n 0, 1) := by decide +kernel
theorem dL_law_38 : decode cL_law 38 = .ok (.iconst 1, 1) := by decide +kernel
theorem dL_law_39 : decode cL_law 39 = .ok (.invokestatic 9, 3) := by decide +kernel
theorem dL_law_42 : decode cL_law 42 = .ok (.aload_n 0, 1) := by decide +kernel
theorem dL_law_43 : decode cL_law 43 = .ok (.iconst 2, 1) := by decide +kernel
theorem dL_law_44 : decode cL_law 44 = .ok (.invokestatic 9, 3) := by decide +kernel
theorem dL_law_47 : decode cL_law 47 = .ok (.aload_n 0, 1) := by decide +kernel
theorem dL_law_48 : decode cL_law 48 = .ok (.iconst 3, 1) := by decide +kernel
theorem dL_law_49 : decode cL_law 49 = .ok (.invokestatic 9, 3) := by decide +kernel
theorem dL_law_52 : decode cL_law 52 = .ok (.invokespecial 20, 3) := by decide +kernel
theorem dL_law_55 : decode cL_law 55 = .ok (.astore_n 2, 1) := by decide +kernel
theorem dL_law_56 : decode cL_law 56 = .ok (.iconst 4, 1) := by decide +kernel
theorem dL_law_57 : decode cL_law 57 = .ok (.istore_n 3, 1) := by decide +kernel
theorem dL_law_58 : decode cL_law 58 = .ok (.iload_n 3, 1) := by decide +kernel
theorem dL_law_59 : decode cL_law 59 = .ok (.aload_n 0, 1) := by decide +kernel
theorem dL_law_60 : decode cL_law 60 = .ok (.arraylength, 1) := by decide +kernel
theorem dL_law_61 : decode cL_law 61 = .ok (.iconst 5, 1) := by decide +kernel
theorem dL_law_62 : decode cL_law 62 = .ok (.isub, 1) := by decide +kernel
theorem dL_law_63 : decode cL_law 63 = .ok (.if_icmp .gt 578, 3) := by decide +kernel
theorem dL_law_66 : decode cL_law 66 = .ok (.aload_n 0, 1) := by decide +kernel
theorem dL_law_67 : decode cL_law 67 = .ok (.iload_n 3, 1) := by decide +kernel
theorem dL_law_68 : decode cL_law 68 = .ok (.iaload, 1) := by decide +kernel
theorem dL_law_69 : decode cL_law 69 = .ok (.bipush 31, 2) := by decide +kernel
theorem dL_law_71 : decode cL_law 71 = .ok (.iand, 1) := by decide +kernel
theorem dL_law_72 : decode cL_law 72 = .ok (.tableswitch 563 0 17 #[88, 101, 124, 167, 200, 223, 246, 299, 312, 335, 358, 381, 405, 428, 451, 464, 497, 530], 88) := by decide +kernel
theorem dL_law_160 : decode cL_law 160 = .ok (.aload_n 1, 1) := by decide +kernel
theorem dL_law_161 : decode cL_law 161 = .ok (.invokevirtual 21, 3) := by decide +kernel
theorem dL_law_164 : decode cL_law 164 = .ok (.aload_n 2, 1) := by decide +kernel
theorem dL_law_165 : decode cL_law 165 = .ok (.invokevirtual 25, 3) := by decide +kernel
theorem dL_law_168 : decode cL_law 168 = .ok (.if_icmp .eq 467, 3) := by decide +kernel
theorem dL_law_171 : decode cL_law 171 = .ok (.iconst 0, 1) := by decide +kernel
theorem dL_law_172 : decode cL_law 172 = .ok (.ireturn, 1) := by decide +kernel
theorem dL_law_173 : decode cL_law 173 = .ok (.aload_n 1, 1) := by decide +kernel
theorem dL_law_174 : decode cL_law 174 = .ok (.aload_n 0, 1) := by decide +kernel
theorem dL_law_175 : decode cL_law 175 = .ok (.iload_n 3, 1) := by decide +kernel
theorem dL_law_176 : decode cL_law 176 = .ok (.iconst 1, 1) := by decide +kernel
theorem dL_law_177 : decode cL_law 177 = .ok (.iadd, 1) := by decide +kernel
theorem dL_law_178 : decode cL_law 178 = .ok (.iaload, 1) := by decide +kernel
theorem dL_law_179 : decode cL_law 179 = .ok (.invokevirtual 26, 3) := by decide +kernel
theorem dL_law_182 : decode cL_law 182 = .ok (.aload_n 2, 1) := by decide +kernel
theorem dL_law_183 : decode cL_law 183 = .ok (.aload_n 0, 1) := by decide +kernel
theorem dL_law_184 : decode cL_law 184 = .ok (.iload_n 3, 1) := by decide +kernel
theorem dL_law_185 : decode cL_law 185 = .ok (.iconst 1, 1) := by decide +kernel
theorem dL_law_186 : decode cL_law 186 = .ok (.iadd, 1) := by decide +kernel
theorem dL_law_187 : decode cL_law 187 = .ok (.iaload, 1) := by decide +kernel
theorem dL_law_188 : decode cL_law 188 = .ok (.invokevirtual 30, 3) := by decide +kernel
theorem dL_law_191 : decode cL_law 191 = .ok (.if_icmp .eq 444, 3) := by decide +kernel
theorem dL_law_194 : decode cL_law 194 = .ok (.iconst 0, 1) := by decide +kernel
theorem dL_law_195 : decode cL_law 195 = .ok (.ireturn, 1) := by decide +kernel
theorem dL_law_196 : decode cL_law 196 = .ok (.aload_n 1, 1) := by decide +kernel
theorem dL_law_197 : decode cL_law 197 = .ok (.aload_n 0, 1) := by decide +kernel
theorem dL_law_198 : decode cL_law 198 = .ok (.iload_n 3, 1) := by decide +kernel
theorem dL_law_199 : decode cL_law 199 = .ok (.iconst 1, 1) := by decide +kernel
theorem dL_law_200 : decode cL_law 200 = .ok (.iadd, 1) := by decide +kernel
theorem dL_law_201 : decode cL_law 201 = .ok (.iaload, 1) := by decide +kernel
theorem dL_law_202 : decode cL_law 202 = .ok (.aload_n 0, 1) := by decide +kernel
theorem dL_law_203 : decode cL_law 203 = .ok (.iload_n 3, 1) := by decide +kernel
theorem dL_law_204 : decode cL_law 204 = .ok (.iconst 2, 1) := by decide +kernel
theorem dL_law_205 : decode cL_law 205 = .ok (.iadd, 1) := by decide +kernel
theorem dL_law_206 : decode cL_law 206 = .ok (.iaload, 1) := by decide +kernel
theorem dL_law_207 : decode cL_law 207 = .ok (.aload_n 0, 1) := by decide +kernel
theorem dL_law_208 : decode cL_law 208 = .ok (.iload_n 3, 1) := by decide +kernel
theorem dL_law_209 : decode cL_law 209 = .ok (.iconst 3, 1) := by decide +kernel
theorem dL_law_210 : decode cL_law 210 = .ok (.iadd, 1) := by decide +kernel
theorem dL_law_211 : decode cL_law 211 = .ok (.iaload, 1) := by decide +kernel
theorem dL_law_212 : decode cL_law 212 = .ok (.invokevirtual 31, 3) := by decide +kernel
theorem dL_law_215 : decode cL_law 215 = .ok (.aload_n 2, 1) := by decide +kernel
theorem dL_law_216 : decode cL_law 216 = .ok (.aload_n 0, 1) := by decide +kernel
theorem dL_law_217 : decode cL_law 217 = .ok (.iload_n 3, 1) := by decide +kernel
theorem dL_law_218 : decode cL_law 218 = .ok (.iconst 1, 1) := by decide +kernel
theorem dL_law_219 : decode cL_law 219 = .ok (.iadd, 1) := by decide +kernel
theorem dL_law_220 : decode cL_law 220 = .ok (.iaload, 1) := by decide +kernel
theorem dL_law_221 : decode cL_law 221 = .ok (.aload_n 0, 1) := by decide +kernel
theorem dL_law_222 : decode cL_law 222 = .ok (.iload_n 3, 1) := by decide +kernel
theorem dL_law_223 : decode cL_law 223 = .ok (.iconst 2, 1) := by decide +kernel
theorem dL_law_224 : decode cL_law 224 = .ok (.iadd, 1) := by decide +kernel
theorem dL_law_225 : decode cL_law 225 = .ok (.iaload, 1) := by decide +kernel
theorem dL_law_226 : decode cL_law 226 = .ok (.aload_n 0, 1) := by decide +kernel
theorem dL_law_227 : decode cL_law 227 = .ok (.iload_n 3, 1) := by decide +kernel
theorem dL_law_228 : decode cL_law 228 = .ok (.iconst 3, 1) := by decide +kernel
theorem dL_law_229 : decode cL_law 229 = .ok (.iadd, 1) := by decide +kernel
theorem dL_law_230 : decode cL_law 230 = .ok (.iaload, 1) := by decide +kernel
theorem dL_law_231 : decode cL_law 231 = .ok (.invokevirtual 35, 3) := by decide +kernel
theorem dL_law_234 : decode cL_law 234 = .ok (.if_icmp .eq 401, 3) := by decide +kernel
theorem dL_law_237 : decode cL_law 237 = .ok (.iconst 0, 1) := by decide +kernel
theorem dL_law_238 : decode cL_law 238 = .ok (.ireturn, 1) := by decide +kernel
theorem dL_law_239 : decode cL_law 239 = .ok (.aload_n 1, 1) := by decide +kernel
theorem dL_law_240 : decode cL_law 240 = .ok (.aload_n 0, 1) := by decide +kernel
theorem dL_law_241 : decode cL_law 241 = .ok (.iload_n 3, 1) := by decide +kernel
theorem dL_law_242 : decode cL_law 242 = .ok (.iconst 1, 1) := by decide +kernel
theorem dL_law_243 : decode cL_law 243 = .ok (.iadd, 1) := by decide +kernel
theorem dL_law_244 : decode cL_law 244 = .ok (.iaload, 1) := by decide +kernel
theorem dL_law_245 : decode cL_law 245 = .ok (.aload_n 0, 1) := by decide +kernel
theorem dL_law_246 : decode cL_law 246 = .ok (.iload_n 3, 1) := by decide +kernel
theorem dL_law_247 : decode cL_law 247 = .ok (.iconst 2, 1) := by decide +kernel
theorem dL_law_248 : decode cL_law 248 = .ok (.iadd, 1) := by decide +kernel
theorem dL_law_249 : decode cL_law 249 = .ok (.iaload, 1) := by decide +kernel
theorem dL_law_250 : decode cL_law 250 = .ok (.invokevirtual 36, 3) := by decide +kernel
theorem dL_law_253 : decode cL_law 253 = .ok (.aload_n 2, 1) := by decide +kernel
theorem dL_law_254 : decode cL_law 254 = .ok (.aload_n 0, 1) := by decide +kernel
theorem dL_law_255 : decode cL_law 255 = .ok (.iload_n 3, 1) := by decide +kernel
theorem dL_law_256 : decode cL_law 256 = .ok (.iconst 1, 1) := by decide +kernel
theorem dL_law_257 : decode cL_law 257 = .ok (.iadd, 1) := by decide +kernel
theorem dL_law_258 : decode cL_law 258 = .ok (.iaload, 1) := by decide +kernel
theorem dL_law_259 : decode cL_law 259 = .ok (.aload_n 0, 1) := by decide +kernel
theorem dL_law_260 : decode cL_law 260 = .ok (.iload_n 3, 1) := by decide +kernel
theorem dL_law_261 : decode cL_law 261 = .ok (.iconst 2, 1) := by decide +kernel
theorem dL_law_262 : decode cL_law 262 = .ok (.iadd, 1) := by decide +kernel
theorem dL_law_263 : decode cL_law 263 = .ok (.iaload, 1) := by decide +kernel
theorem dL_law_264 : decode cL_law 264 = .ok (.invokevirtual 40, 3) := by decide +kernel
theorem dL_law_267 : decode cL_law 267 = .ok (.if_icmp .eq 368, 3) := by decide +kernel
theorem dL_law_270 : decode cL_law 270 = .ok (.iconst 0, 1) := by decide +kernel
theorem dL_law_271 : decode cL_law 271 = .ok (.ireturn, 1) := by decide +kernel
theorem dL_law_272 : decode cL_law 272 = .ok (.aload_n 1, 1) := by decide +kernel
theorem dL_law_273 : decode cL_law 273 = .ok (.aload_n 0, 1) := by decide +kernel
theorem dL_law_274 : decode cL_law 274 = .ok (.iload_n 3, 1) := by decide +kernel
theorem dL_law_275 : decode cL_law 275 = .ok (.iconst 1, 1) := by decide +kernel
theorem dL_law_276 : decode cL_law 276 = .ok (.iadd, 1) := by decide +kernel
theorem dL_law_277 : decode cL_law 277 = .ok (.iaload, 1) := by decide +kernel
theorem dL_law_278 : decode cL_law 278 = .ok (.invokevirtual 41, 3) := by decide +kernel
theorem dL_law_281 : decode cL_law 281 = .ok (.aload_n 2, 1) := by decide +kernel
theorem dL_law_282 : decode cL_law 282 = .ok (.aload_n 0, 1) := by decide +kernel
theorem dL_law_283 : decode cL_law 283 = .ok (.iload_n 3, 1) := by decide +kernel
theorem dL_law_284 : decode cL_law 284 = .ok (.iconst 1, 1) := by decide +kernel
theorem dL_law_285 : decode cL_law 285 = .ok (.iadd, 1) := by decide +kernel
theorem dL_law_286 : decode cL_law 286 = .ok (.iaload, 1) := by decide +kernel
theorem dL_law_287 : decode cL_law 287 = .ok (.invokevirtual 44, 3) := by decide +kernel
theorem dL_law_290 : decode cL_law 290 = .ok (.if_icmp .eq 345, 3) := by decide +kernel
theorem dL_law_293 : decode cL_law 293 = .ok (.iconst 0, 1) := by decide +kernel
theorem dL_law_294 : decode cL_law 294 = .ok (.ireturn, 1) := by decide +kernel
theorem dL_law_295 : decode cL_law 295 = .ok (.aload_n 1, 1) := by decide +kernel
theorem dL_law_296 : decode cL_law 296 = .ok (.aload_n 0, 1) := by decide +kernel
theorem dL_law_297 : decode cL_law 297 = .ok (.iload_n 3, 1) := by decide +kernel
theorem dL_law_298 : decode cL_law 298 = .ok (.iconst 1, 1) := by decide +kernel
theorem dL_law_299 : decode cL_law 299 = .ok (.iadd, 1) := by decide +kernel
theorem dL_law_300 : decode cL_law 300 = .ok (.iaload, 1) := by decide +kernel
theorem dL_law_301 : decode cL_law 301 = .ok (.invokevirtual 45, 3) := by decide +kernel
theorem dL_law_304 : decode cL_law 304 = .ok (.aload_n 2, 1) := by decide +kernel
theorem dL_law_305 : decode cL_law 305 = .ok (.aload_n 0, 1) := by decide +kernel
theorem dL_law_306 : decode cL_law 306 = .ok (.iload_n 3, 1) := by decide +kernel
theorem dL_law_307 : decode cL_law 307 = .ok (.iconst 1, 1) := by decide +kernel
theorem dL_law_308 : decode cL_law 308 = .ok (.iadd, 1) := by decide +kernel
theorem dL_law_309 : decode cL_law 309 = .ok (.iaload, 1) := by decide +kernel
theorem dL_law_310 : decode cL_law 310 = .ok (.invokevirtual 49, 3) := by decide +kernel
theorem dL_law_313 : decode cL_law 313 = .ok (.if_icmp .eq 322, 3) := by decide +kernel
theorem dL_law_316 : decode cL_law 316 = .ok (.iconst 0, 1) := by decide +kernel
theorem dL_law_317 : decode cL_law 317 = .ok (.ireturn, 1) := by decide +kernel
theorem dL_law_318 : decode cL_law 318 = .ok (.aload_n 1, 1) := by decide +kernel
theorem dL_law_319 : decode cL_law 319 = .ok (.aload_n 0, 1) := by decide +kernel
theorem dL_law_320 : decode cL_law 320 = .ok (.iload_n 3, 1) := by decide +kernel
theorem dL_law_321 : decode cL_law 321 = .ok (.iconst 1, 1) := by decide +kernel
theorem dL_law_322 : decode cL_law 322 = .ok (.iadd, 1) := by decide +kernel
theorem dL_law_323 : decode cL_law 323 = .ok (.iaload, 1) := by decide +kernel
theorem dL_law_324 : decode cL_law 324 = .ok (.aload_n 0, 1) := by decide +kernel
theorem dL_law_325 : decode cL_law 325 = .ok (.iload_n 3, 1) := by decide +kernel
theorem dL_law_326 : decode cL_law 326 = .ok (.iconst 2, 1) := by decide +kernel
theorem dL_law_327 : decode cL_law 327 = .ok (.iadd, 1) := by decide +kernel
theorem dL_law_328 : decode cL_law 328 = .ok (.iaload, 1) := by decide +kernel
theorem dL_law_329 : decode cL_law 329 = .ok (.aload_n 0, 1) := by decide +kernel
theorem dL_law_330 : decode cL_law 330 = .ok (.iload_n 3, 1) := by decide +kernel
theorem dL_law_331 : decode cL_law 331 = .ok (.iconst 3, 1) := by decide +kernel
theorem dL_law_332 : decode cL_law 332 = .ok (.iadd, 1) := by decide +kernel
theorem dL_law_333 : decode cL_law 333 = .ok (.iaload, 1) := by decide +kernel
theorem dL_law_334 : decode cL_law 334 = .ok (.aload_n 0, 1) := by decide +kernel
theorem dL_law_335 : decode cL_law 335 = .ok (.iload_n 3, 1) := by decide +kernel
theorem dL_law_336 : decode cL_law 336 = .ok (.iconst 4, 1) := by decide +kernel
theorem dL_law_337 : decode cL_law 337 = .ok (.iadd, 1) := by decide +kernel
theorem dL_law_338 : decode cL_law 338 = .ok (.iaload, 1) := by decide +kernel
theorem dL_law_339 : decode cL_law 339 = .ok (.invokevirtual 50, 3) := by decide +kernel
theorem dL_law_342 : decode cL_law 342 = .ok (.aload_n 2, 1) := by decide +kernel
theorem dL_law_343 : decode cL_law 343 = .ok (.aload_n 0, 1) := by decide +kernel
theorem dL_law_344 : decode cL_law 344 = .ok (.iload_n 3, 1) := by decide +kernel
theorem dL_law_345 : decode cL_law 345 = .ok (.iconst 1, 1) := by decide +kernel
theorem dL_law_346 : decode cL_law 346 = .ok (.iadd, 1) := by decide +kernel
theorem dL_law_347 : decode cL_law 347 = .ok (.iaload, 1) := by decide +kernel
theorem dL_law_348 : decode cL_law 348 = .ok (.aload_n 0, 1) := by decide +kernel
theorem dL_law_349 : decode cL_law 349 = .ok (.iload_n 3, 1) := by decide +kernel
theorem dL_law_350 : decode cL_law 350 = .ok (.iconst 2, 1) := by decide +kernel
theorem dL_law_351 : decode cL_law 351 = .ok (.iadd, 1) := by decide +kernel
theorem dL_law_352 : decode cL_law 352 = .ok (.iaload, 1) := by decide +kernel
theorem dL_law_353 : decode cL_law 353 = .ok (.aload_n 0, 1) := by decide +kernel
theorem dL_law_354 : decode cL_law 354 = .ok (.iload_n 3, 1) := by decide +kernel
theorem dL_law_355 : decode cL_law 355 = .ok (.iconst 3, 1) := by decide +kernel
theorem dL_law_356 : decode cL_law 356 = .ok (.iadd, 1) := by decide +kernel
theorem dL_law_357 : decode cL_law 357 = .ok (.iaload, 1) := by decide +kernel
theorem dL_law_358 : decode cL_law 358 = .ok (.aload_n 0, 1) := by decide +kernel
theorem dL_law_359 : decode cL_law 359 = .ok (.iload_n 3, 1) := by decide +kernel
theorem dL_law_360 : decode cL_law 360 = .ok (.iconst 4, 1) := by decide +kernel
theorem dL_law_361 : decode cL_law 361 = .ok (.iadd, 1) := by decide +kernel
theorem dL_law_362 : decode cL_law 362 = .ok (.iaload, 1) := by decide +kernel
theorem dL_law_363 : decode cL_law 363 = .ok (.invokevirtual 54, 3) := by decide +kernel
theorem dL_law_366 : decode cL_law 366 = .ok (.if_icmp .eq 269, 3) := by decide +kernel
theorem dL_law_369 : decode cL_law 369 = .ok (.iconst 0, 1) := by decide +kernel
theorem dL_law_370 : decode cL_law 370 = .ok (.ireturn, 1) := by decide +kernel
theorem dL_law_371 : decode cL_law 371 = .ok (.aload_n 1, 1) := by decide +kernel
theorem dL_law_372 : decode cL_law 372 = .ok (.invokevirtual 55, 3) := by decide +kernel
theorem dL_law_375 : decode cL_law 375 = .ok (.aload_n 2, 1) := by decide +kernel
theorem dL_law_376 : decode cL_law 376 = .ok (.invokevirtual 58, 3) := by decide +kernel
theorem dL_law_379 : decode cL_law 379 = .ok (.if_icmp .eq 256, 3) := by decide +kernel
theorem dL_law_382 : decode cL_law 382 = .ok (.iconst 0, 1) := by decide +kernel
theorem dL_law_383 : decode cL_law 383 = .ok (.ireturn, 1) := by decide +kernel
theorem dL_law_384 : decode cL_law 384 = .ok (.aload_n 1, 1) := by decide +kernel
theorem dL_law_385 : decode cL_law 385 = .ok (.aload_n 0, 1) := by decide +kernel
theorem dL_law_386 : decode cL_law 386 = .ok (.iload_n 3, 1) := by decide +kernel
theorem dL_law_387 : decode cL_law 387 = .ok (.iconst 1, 1) := by decide +kernel
theorem dL_law_388 : decode cL_law 388 = .ok (.iadd, 1) := by decide +kernel
theorem dL_law_389 : decode cL_law 389 = .ok (.iaload, 1) := by decide +kernel
theorem dL_law_390 : decode cL_law 390 = .ok (.invokevirtual 59, 3) := by decide +kernel
theorem dL_law_393 : decode cL_law 393 = .ok (.aload_n 2, 1) := by decide +kernel
theorem dL_law_394 : decode cL_law 394 = .ok (.aload_n 0, 1) := by decide +kernel
theorem dL_law_395 : decode cL_law 395 = .ok (.iload_n 3, 1) := by decide +kernel
theorem dL_law_396 : decode cL_law 396 = .ok (.iconst 1, 1) := by decide +kernel
theorem dL_law_397 : decode cL_law 397 = .ok (.iadd, 1) := by decide +kernel
theorem dL_law_398 : decode cL_law 398 = .ok (.iaload, 1) := by decide +kernel
theorem dL_law_399 : decode cL_law 399 = .ok (.invokevirtual 62, 3) := by decide +kernel
theorem dL_law_402 : decode cL_law 402 = .ok (.if_icmp .eq 233, 3) := by decide +kernel
theorem dL_law_405 : decode cL_law 405 = .ok (.iconst 0, 1) := by decide +kernel
theorem dL_law_406 : decode cL_law 406 = .ok (.ireturn, 1) := by decide +kernel
theorem dL_law_407 : decode cL_law 407 = .ok (.aload_n 1, 1) := by decide +kernel
theorem dL_law_408 : decode cL_law 408 = .ok (.aload_n 0, 1) := by decide +kernel
theorem dL_law_409 : decode cL_law 409 = .ok (.iload_n 3, 1) := by decide +kernel
theorem dL_law_410 : decode cL_law 410 = .ok (.iconst 1, 1) := by decide +kernel
theorem dL_law_411 : decode cL_law 411 = .ok (.iadd, 1) := by decide +kernel
theorem dL_law_412 : decode cL_law 412 = .ok (.iaload, 1) := by decide +kernel
theorem dL_law_413 : decode cL_law 413 = .ok (.invokevirtual 63, 3) := by decide +kernel
theorem dL_law_416 : decode cL_law 416 = .ok (.aload_n 2, 1) := by decide +kernel
theorem dL_law_417 : decode cL_law 417 = .ok (.aload_n 0, 1) := by decide +kernel
theorem dL_law_418 : decode cL_law 418 = .ok (.iload_n 3, 1) := by decide +kernel
theorem dL_law_419 : decode cL_law 419 = .ok (.iconst 1, 1) := by decide +kernel
theorem dL_law_420 : decode cL_law 420 = .ok (.iadd, 1) := by decide +kernel
theorem dL_law_421 : decode cL_law 421 = .ok (.iaload, 1) := by decide +kernel
theorem dL_law_422 : decode cL_law 422 = .ok (.invokevirtual 66, 3) := by decide +kernel
theorem dL_law_425 : decode cL_law 425 = .ok (.if_icmp .eq 210, 3) := by decide +kernel
theorem dL_law_428 : decode cL_law 428 = .ok (.iconst 0, 1) := by decide +kernel
theorem dL_law_429 : decode cL_law 429 = .ok (.ireturn, 1) := by decide +kernel
theorem dL_law_430 : decode cL_law 430 = .ok (.aload_n 1, 1) := by decide +kernel
theorem dL_law_431 : decode cL_law 431 = .ok (.aload_n 0, 1) := by decide +kernel
theorem dL_law_432 : decode cL_law 432 = .ok (.iload_n 3, 1) := by decide +kernel
theorem dL_law_433 : decode cL_law 433 = .ok (.iconst 1, 1) := by decide +kernel
theorem dL_law_434 : decode cL_law 434 = .ok (.iadd, 1) := by decide +kernel
theorem dL_law_435 : decode cL_law 435 = .ok (.iaload, 1) := by decide +kernel
theorem dL_law_436 : decode cL_law 436 = .ok (.invokevirtual 67, 3) := by decide +kernel
theorem dL_law_439 : decode cL_law 439 = .ok (.aload_n 2, 1) := by decide +kernel
theorem dL_law_440 : decode cL_law 440 = .ok (.aload_n 0, 1) := by decide +kernel
theorem dL_law_441 : decode cL_law 441 = .ok (.iload_n 3, 1) := by decide +kernel
theorem dL_law_442 : decode cL_law 442 = .ok (.iconst 1, 1) := by decide +kernel
theorem dL_law_443 : decode cL_law 443 = .ok (.iadd, 1) := by decide +kernel
theorem dL_law_444 : decode cL_law 444 = .ok (.iaload, 1) := by decide +kernel
theorem dL_law_445 : decode cL_law 445 = .ok (.invokevirtual 70, 3) := by decide +kernel
theorem dL_law_448 : decode cL_law 448 = .ok (.if_icmp .eq 187, 3) := by decide +kernel
theorem dL_law_451 : decode cL_law 451 = .ok (.iconst 0, 1) := by decide +kernel
theorem dL_law_452 : decode cL_law 452 = .ok (.ireturn, 1) := by decide +kernel
theorem dL_law_453 : decode cL_law 453 = .ok (.aload_n 1, 1) := by decide +kernel
theorem dL_law_454 : decode cL_law 454 = .ok (.aload_n 0, 1) := by decide +kernel
theorem dL_law_455 : decode cL_law 455 = .ok (.iload_n 3, 1) := by decide +kernel
theorem dL_law_456 : decode cL_law 456 = .ok (.iconst 1, 1) := by decide +kernel
theorem dL_law_457 : decode cL_law 457 = .ok (.iadd, 1) := by decide +kernel
theorem dL_law_458 : decode cL_law 458 = .ok (.iaload, 1) := by decide +kernel
theorem dL_law_459 : decode cL_law 459 = .ok (.invokevirtual 71, 3) := by decide +kernel
theorem dL_law_462 : decode cL_law 462 = .ok (.aload_n 2, 1) := by decide +kernel
theorem dL_law_463 : decode cL_law 463 = .ok (.aload_n 0, 1) := by decide +kernel
theorem dL_law_464 : decode cL_law 464 = .ok (.iload_n 3, 1) := by decide +kernel
theorem dL_law_465 : decode cL_law 465 = .ok (.iconst 1, 1) := by decide +kernel
theorem dL_law_466 : decode cL_law 466 = .ok (.iadd, 1) := by decide +kernel
theorem dL_law_467 : decode cL_law 467 = .ok (.iaload, 1) := by decide +kernel
theorem dL_law_468 : decode cL_law 468 = .ok (.invokevirtual 75, 3) := by decide +kernel
theorem dL_law_471 : decode cL_law 471 = .ok (.lcmp, 1) := by decide +kernel
theorem dL_law_472 : decode cL_law 472 = .ok (.ifCond .eq 163, 3) := by decide +kernel
theorem dL_law_475 : decode cL_law 475 = .ok (.iconst 0, 1) := by decide +kernel
theorem dL_law_476 : decode cL_law 476 = .ok (.ireturn, 1) := by decide +kernel
theorem dL_law_477 : decode cL_law 477 = .ok (.aload_n 1, 1) := by decide +kernel
theorem dL_law_478 : decode cL_law 478 = .ok (.aload_n 0, 1) := by decide +kernel
theorem dL_law_479 : decode cL_law 479 = .ok (.iload_n 3, 1) := by decide +kernel
theorem dL_law_480 : decode cL_law 480 = .ok (.iconst 1, 1) := by decide +kernel
theorem dL_law_481 : decode cL_law 481 = .ok (.iadd, 1) := by decide +kernel
theorem dL_law_482 : decode cL_law 482 = .ok (.iaload, 1) := by decide +kernel
theorem dL_law_483 : decode cL_law 483 = .ok (.invokevirtual 76, 3) := by decide +kernel
theorem dL_law_486 : decode cL_law 486 = .ok (.aload_n 2, 1) := by decide +kernel
theorem dL_law_487 : decode cL_law 487 = .ok (.aload_n 0, 1) := by decide +kernel
theorem dL_law_488 : decode cL_law 488 = .ok (.iload_n 3, 1) := by decide +kernel
theorem dL_law_489 : decode cL_law 489 = .ok (.iconst 1, 1) := by decide +kernel
theorem dL_law_490 : decode cL_law 490 = .ok (.iadd, 1) := by decide +kernel
theorem dL_law_491 : decode cL_law 491 = .ok (.iaload, 1) := by decide +kernel
theorem dL_law_492 : decode cL_law 492 = .ok (.invokevirtual 79, 3) := by decide +kernel
theorem dL_law_495 : decode cL_law 495 = .ok (.if_icmp .eq 140, 3) := by decide +kernel
theorem dL_law_498 : decode cL_law 498 = .ok (.iconst 0, 1) := by decide +kernel
theorem dL_law_499 : decode cL_law 499 = .ok (.ireturn, 1) := by decide +kernel
theorem dL_law_500 : decode cL_law 500 = .ok (.aload_n 1, 1) := by decide +kernel
theorem dL_law_501 : decode cL_law 501 = .ok (.aload_n 0, 1) := by decide +kernel
theorem dL_law_502 : decode cL_law 502 = .ok (.iload_n 3, 1) := by decide +kernel
theorem dL_law_503 : decode cL_law 503 = .ok (.iconst 1, 1) := by decide +kernel
theorem dL_law_504 : decode cL_law 504 = .ok (.iadd, 1) := by decide +kernel
theorem dL_law_505 : decode cL_law 505 = .ok (.iaload, 1) := by decide +kernel
theorem dL_law_506 : decode cL_law 506 = .ok (.invokevirtual 80, 3) := by decide +kernel
theorem dL_law_509 : decode cL_law 509 = .ok (.aload_n 2, 1) := by decide +kernel
theorem dL_law_510 : decode cL_law 510 = .ok (.aload_n 0, 1) := by decide +kernel
theorem dL_law_511 : decode cL_law 511 = .ok (.iload_n 3, 1) := by decide +kernel
theorem dL_law_512 : decode cL_law 512 = .ok (.iconst 1, 1) := by decide +kernel
theorem dL_law_513 : decode cL_law 513 = .ok (.iadd, 1) := by decide +kernel
theorem dL_law_514 : decode cL_law 514 = .ok (.iaload, 1) := by decide +kernel
theorem dL_law_515 : decode cL_law 515 = .ok (.invokevirtual 83, 3) := by decide +kernel
theorem dL_law_518 : decode cL_law 518 = .ok (.if_icmp .eq 117, 3) := by decide +kernel
theorem dL_law_521 : decode cL_law 521 = .ok (.iconst 0, 1) := by decide +kernel
theorem dL_law_522 : decode cL_law 522 = .ok (.ireturn, 1) := by decide +kernel
theorem dL_law_523 : decode cL_law 523 = .ok (.aload_n 1, 1) := by decide +kernel
theorem dL_law_524 : decode cL_law 524 = .ok (.invokevirtual 84, 3) := by decide +kernel
theorem dL_law_527 : decode cL_law 527 = .ok (.aload_n 2, 1) := by decide +kernel
theorem dL_law_528 : decode cL_law 528 = .ok (.invokevirtual 87, 3) := by decide +kernel
theorem dL_law_531 : decode cL_law 531 = .ok (.if_icmp .eq 104, 3) := by decide +kernel
theorem dL_law_534 : decode cL_law 534 = .ok (.iconst 0, 1) := by decide +kernel
theorem dL_law_535 : decode cL_law 535 = .ok (.ireturn, 1) := by decide +kernel
theorem dL_law_536 : decode cL_law 536 = .ok (.aload_n 1, 1) := by decide +kernel
theorem dL_law_537 : decode cL_law 537 = .ok (.aload_n 0, 1) := by decide +kernel
theorem dL_law_538 : decode cL_law 538 = .ok (.iload_n 3, 1) := by decide +kernel
theorem dL_law_539 : decode cL_law 539 = .ok (.iconst 1, 1) := by decide +kernel
theorem dL_law_540 : decode cL_law 540 = .ok (.iadd, 1) := by decide +kernel
theorem dL_law_541 : decode cL_law 541 = .ok (.iaload, 1) := by decide +kernel
theorem dL_law_542 : decode cL_law 542 = .ok (.aload_n 0, 1) := by decide +kernel
theorem dL_law_543 : decode cL_law 543 = .ok (.iload_n 3, 1) := by decide +kernel
theorem dL_law_544 : decode cL_law 544 = .ok (.iconst 2, 1) := by decide +kernel
theorem dL_law_545 : decode cL_law 545 = .ok (.iadd, 1) := by decide +kernel
theorem dL_law_546 : decode cL_law 546 = .ok (.iaload, 1) := by decide +kernel
theorem dL_law_547 : decode cL_law 547 = .ok (.invokevirtual 88, 3) := by decide +kernel
theorem dL_law_550 : decode cL_law 550 = .ok (.aload_n 2, 1) := by decide +kernel
theorem dL_law_551 : decode cL_law 551 = .ok (.aload_n 0, 1) := by decide +kernel
theorem dL_law_552 : decode cL_law 552 = .ok (.iload_n 3, 1) := by decide +kernel
theorem dL_law_553 : decode cL_law 553 = .ok (.iconst 1, 1) := by decide +kernel
theorem dL_law_554 : decode cL_law 554 = .ok (.iadd, 1) := by decide +kernel
theorem dL_law_555 : decode cL_law 555 = .ok (.iaload, 1) := by decide +kernel
theorem dL_law_556 : decode cL_law 556 = .ok (.aload_n 0, 1) := by decide +kernel
theorem dL_law_557 : decode cL_law 557 = .ok (.iload_n 3, 1) := by decide +kernel
theorem dL_law_558 : decode cL_law 558 = .ok (.iconst 2, 1) := by decide +kernel
theorem dL_law_559 : decode cL_law 559 = .ok (.iadd, 1) := by decide +kernel
theorem dL_law_560 : decode cL_law 560 = .ok (.iaload, 1) := by decide +kernel
theorem dL_law_561 : decode cL_law 561 = .ok (.invokevirtual 91, 3) := by decide +kernel
theorem dL_law_564 : decode cL_law 564 = .ok (.if_icmp .eq 71, 3) := by decide +kernel
theorem dL_law_567 : decode cL_law 567 = .ok (.iconst 0, 1) := by decide +kernel
theorem dL_law_568 : decode cL_law 568 = .ok (.ireturn, 1) := by decide +kernel
theorem dL_law_569 : decode cL_law 569 = .ok (.aload_n 1, 1) := by decide +kernel
theorem dL_law_570 : decode cL_law 570 = .ok (.aload_n 0, 1) := by decide +kernel
theorem dL_law_571 : decode cL_law 571 = .ok (.iload_n 3, 1) := by decide +kernel
theorem dL_law_572 : decode cL_law 572 = .ok (.iconst 1, 1) := by decide +kernel
theorem dL_law_573 : decode cL_law 573 = .ok (.iadd, 1) := by decide +kernel
theorem dL_law_574 : decode cL_law 574 = .ok (.iaload, 1) := by decide +kernel
theorem dL_law_575 : decode cL_law 575 = .ok (.aload_n 0, 1) := by decide +kernel
theorem dL_law_576 : decode cL_law 576 = .ok (.iload_n 3, 1) := by decide +kernel
theorem dL_law_577 : decode cL_law 577 = .ok (.iconst 2, 1) := by decide +kernel
theorem dL_law_578 : decode cL_law 578 = .ok (.iadd, 1) := by decide +kernel
theorem dL_law_579 : decode cL_law 579 = .ok (.iaload, 1) := by decide +kernel
theorem dL_law_580 : decode cL_law 580 = .ok (.invokevirtual 92, 3) := by decide +kernel
theorem dL_law_583 : decode cL_law 583 = .ok (.aload_n 2, 1) := by decide +kernel
theorem dL_law_584 : decode cL_law 584 = .ok (.aload_n 0, 1) := by decide +kernel
theorem dL_law_585 : decode cL_law 585 = .ok (.iload_n 3, 1) := by decide +kernel
theorem dL_law_586 : decode cL_law 586 = .ok (.iconst 1, 1) := by decide +kernel
theorem dL_law_587 : decode cL_law 587 = .ok (.iadd, 1) := by decide +kernel
theorem dL_law_588 : decode cL_law 588 = .ok (.iaload, 1) := by decide +kernel
theorem dL_law_589 : decode cL_law 589 = .ok (.aload_n 0, 1) := by decide +kernel
theorem dL_law_590 : decode cL_law 590 = .ok (.iload_n 3, 1) := by decide +kernel
theorem dL_law_591 : decode cL_law 591 = .ok (.iconst 2, 1) := by decide +kernel
theorem dL_law_592 : decode cL_law 592 = .ok (.iadd, 1) := by decide +kernel
theorem dL_law_593 : decode cL_law 593 = .ok (.iaload, 1) := by decide +kernel
theorem dL_law_594 : decode cL_law 594 = .ok (.invokevirtual 95, 3) := by decide +kernel
theorem dL_law_597 : decode cL_law 597 = .ok (.if_icmp .eq 38, 3) := by decide +kernel
theorem dL_law_600 : decode cL_law 600 = .ok (.iconst 0, 1) := by decide +kernel
theorem dL_law_601 : decode cL_law 601 = .ok (.ireturn, 1) := by decide +kernel
theorem dL_law_602 : decode cL_law 602 = .ok (.aload_n 1, 1) := by decide +kernel
theorem dL_law_603 : decode cL_law 603 = .ok (.aload_n 0, 1) := by decide +kernel
theorem dL_law_604 : decode cL_law 604 = .ok (.iload_n 3, 1) := by decide +kernel
theorem dL_law_605 : decode cL_law 605 = .ok (.iconst 1, 1) := by decide +kernel
theorem dL_law_606 : decode cL_law 606 = .ok (.iadd, 1) := by decide +kernel
theorem dL_law_607 : decode cL_law 607 = .ok (.iaload, 1) := by decide +kernel
theorem dL_law_608 : decode cL_law 608 = .ok (.aload_n 0, 1) := by decide +kernel
theorem dL_law_609 : decode cL_law 609 = .ok (.iload_n 3, 1) := by decide +kernel
theorem dL_law_610 : decode cL_law 610 = .ok (.iconst 2, 1) := by decide +kernel
theorem dL_law_611 : decode cL_law 611 = .ok (.iadd, 1) := by decide +kernel
theorem dL_law_612 : decode cL_law 612 = .ok (.iaload, 1) := by decide +kernel
theorem dL_law_613 : decode cL_law 613 = .ok (.invokevirtual 96, 3) := by decide +kernel
theorem dL_law_616 : decode cL_law 616 = .ok (.aload_n 2, 1) := by decide +kernel
theorem dL_law_617 : decode cL_law 617 = .ok (.aload_n 0, 1) := by decide +kernel
theorem dL_law_618 : decode cL_law 618 = .ok (.iload_n 3, 1) := by decide +kernel
theorem dL_law_619 : decode cL_law 619 = .ok (.iconst 1, 1) := by decide +kernel
theorem dL_law_620 : decode cL_law 620 = .ok (.iadd, 1) := by decide +kernel
theorem dL_law_621 : decode cL_law 621 = .ok (.iaload, 1) := by decide +kernel
theorem dL_law_622 : decode cL_law 622 = .ok (.aload_n 0, 1) := by decide +kernel
theorem dL_law_623 : decode cL_law 623 = .ok (.iload_n 3, 1) := by decide +kernel
theorem dL_law_624 : decode cL_law 624 = .ok (.iconst 2, 1) := by decide +kernel
theorem dL_law_625 : decode cL_law 625 = .ok (.iadd, 1) := by decide +kernel
theorem dL_law_626 : decode cL_law 626 = .ok (.iaload, 1) := by decide +kernel
theorem dL_law_627 : decode cL_law 627 = .ok (.invokevirtual 99, 3) := by decide +kernel
theorem dL_law_630 : decode cL_law 630 = .ok (.if_icmp .eq 5, 3) := by decide +kernel
theorem dL_law_633 : decode cL_law 633 = .ok (.iconst 0, 1) := by decide +kernel
theorem dL_law_634 : decode cL_law 634 = .ok (.ireturn, 1) := by decide +kernel
theorem dL_law_635 : decode cL_law 635 = .ok (.iinc 3 5, 3) := by decide +kernel
theorem dL_law_638 : decode cL_law 638 = .ok (.goto (-580), 3) := by decide +kernel
theorem dL_law_641 : decode cL_law 641 = .ok (.iconst 1, 1) := by decide +kernel
theorem dL_law_642 : decode cL_law 642 = .ok (.ireturn, 1) := by decide +kernel
