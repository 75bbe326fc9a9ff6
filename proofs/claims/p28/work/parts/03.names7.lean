set_option maxRecDepth 20000 in
theorem gL_isDone_L_isClosed : GoodIn wsL_isDone (va_wsS RL 147 yL_isClosed wsL_isClosed) := goodIn_app (goodIn_of _ (by decide +kernel)) ggL_isDone_L_isClosed
theorem dL_isDone_0 : decode cL_isDone 0 = .ok (.aload_n 1, 1) := by decide +kernel
theorem dL_isDone_1 : decode cL_isDone 1 = .ok (.iload_n 2, 1) := by decide +kernel
theorem dL_isDone_2 : decode cL_isDone 2 = .ok (.bipush 40, 2) := by decide +kernel
theorem dL_isDone_4 : decode cL_isDone 4 = .ok (.invokestatic 127, 3) := by decide +kernel
theorem dL_isDone_7 : decode cL_isDone 7 = .ok (.istore 8, 2) := by decide +kernel
theorem dL_isDone_9 : decode cL_isDone 9 = .ok (.aload_n 1, 1) := by decide +kernel
theorem dL_isDone_10 : decode cL_isDone 10 = .ok (.iload_n 2, 1) := by decide +kernel
theorem dL_isDone_11 : decode cL_isDone 11 = .ok (.iconst 1, 1) := by decide +kernel
theorem dL_isDone_12 : decode cL_isDone 12 = .ok (.iadd, 1) := by decide +kernel
theorem dL_isDone_13 : decode cL_isDone 13 = .ok (.sipush 6000, 3) := by decide +kernel
theorem dL_isDone_16 : decode cL_isDone 16 = .ok (.invokestatic 127, 3) := by decide +kernel
theorem dL_isDone_19 : decode cL_isDone 19 = .ok (.istore 9, 2) := by decide +kernel
theorem dL_isDone_21 : decode cL_isDone 21 = .ok (.aload_n 1, 1) := by decide +kernel
theorem dL_isDone_22 : decode cL_isDone 22 = .ok (.iload_n 2, 1) := by decide +kernel
theorem dL_isDone_23 : decode cL_isDone 23 = .ok (.iconst 2, 1) := by decide +kernel
theorem dL_isDone_24 : decode cL_isDone 24 = .ok (.iadd, 1) := by decide +kernel
theorem dL_isDone_25 : decode cL_isDone 25 = .ok (.sipush 7000, 3) := by decide +kernel
theorem dL_isDone_28 : decode cL_isDone 28 = .ok (.invokestatic 127, 3) := by decide +kernel
theorem dL_isDone_31 : decode cL_isDone 31 = .ok (.istore 10, 2) := by decide +kernel
theorem dL_isDone_33 : decode cL_isDone 33 = .ok (.aload_n 1, 1) := by decide +kernel
theorem dL_isDone_34 : decode cL_isDone 34 = .ok (.iload_n 2, 1) := by decide +kernel
theorem dL_isDone_35 : decode cL_isDone 35 = .ok (.iconst 3, 1) := by decide +kernel
theorem dL_isDone_36 : decode cL_isDone 36 = .ok (.iadd, 1) := by decide +kernel
theorem dL_isDone_37 : decode cL_isDone 37 = .ok (.sipush 8000, 3) := by decide +kernel
theorem dL_isDone_40 : decode cL_isDone 40 = .ok (.invokestatic 127, 3) := by decide +kernel
theorem dL_isDone_43 : decode cL_isDone 43 = .ok (.istore 11, 2) := by decide +kernel
theorem dL_isDone_45 : decode cL_isDone 45 = .ok (.aload 7, 2) := by decide +kernel
theorem dL_isDone_47 : decode cL_isDone 47 = .ok (.iconst 0, 1) := by decide +kernel
theorem dL_isDone_48 : decode cL_isDone 48 = .ok (.iaload, 1) := by decide +kernel
theorem dL_isDone_49 : decode cL_isDone 49 = .ok (.ifCond .ne 7, 3) := by decide +kernel
theorem dL_isDone_52 : decode cL_isDone 52 = .ok (.iconst 0, 1) := by decide +kernel
theorem dL_isDone_53 : decode cL_isDone 53 = .ok (.goto 49, 3) := by decide +kernel
theorem dL_isDone_56 : decode cL_isDone 56 = .ok (.iload 11, 2) := by decide +kernel
theorem dL_isDone_58 : decode cL_isDone 58 = .ok (.bipush 9, 2) := by decide +kernel
theorem dL_isDone_60 : decode cL_isDone 60 = .ok (.irem, 1) := by decide +kernel
theorem dL_isDone_61 : decode cL_isDone 61 = .ok (.ifCond .ne 15, 3) := by decide +kernel
theorem dL_isDone_64 : decode cL_isDone 64 = .ok (.iload 9, 2) := by decide +kernel
theorem dL_isDone_66 : decode cL_isDone 66 = .ok (.aload 7, 2) := by decide +kernel
theorem dL_isDone_68 : decode cL_isDone 68 = .ok (.iconst 0, 1) := by decide +kernel
theorem dL_isDone_69 : decode cL_isDone 69 = .ok (.iaload, 1) := by decide +kernel
theorem dL_isDone_70 : decode cL_isDone 70 = .ok (.iconst 1, 1) := by decide +kernel
theorem dL_isDone_71 : decode cL_isDone 71 = .ok (.iadd, 1) := by decide +kernel
theorem dL_isDone_72 : decode cL_isDone 72 = .ok (.irem, 1) := by decide +kernel
theorem dL_isDone_73 : decode cL_isDone 73 = .ok (.goto 29, 3) := by decide +kernel
theorem dL_isDone_76 : decode cL_isDone 76 = .ok (.aload 7, 2) := by decide +kernel
theorem dL_isDone_78 : decode cL_isDone 78 = .ok (.iconst 0, 1) := by decide +kernel
theorem dL_isDone_79 : decode cL_isDone 79 = .ok (.iaload, 1) := by decide +kernel
theorem dL_isDone_80 : decode cL_isDone 80 = .ok (.iconst 1, 1) := by decide +kernel
theorem dL_isDone_81 : decode cL_isDone 81 = .ok (.isub, 1) := by decide +kernel
theorem dL_isDone_82 : decode cL_isDone 82 = .ok (.iload 9, 2) := by decide +kernel
theorem dL_isDone_84 : decode cL_isDone 84 = .ok (.aload 7, 2) := by decide +kernel
theorem dL_isDone_86 : decode cL_isDone 86 = .ok (.iconst 0, 1) := by decide +kernel
theorem dL_isDone_87 : decode cL_isDone 87 = .ok (.iaload, 1) := by decide +kernel
theorem dL_isDone_88 : decode cL_isDone 88 = .ok (.iconst 3, 1) := by decide +kernel
theorem dL_isDone_89 : decode cL_isDone 89 = .ok (.if_icmp .le 7, 3) := by decide +kernel
theorem dL_isDone_92 : decode cL_isDone 92 = .ok (.iconst 3, 1) := by decide +kernel
theorem dL_isDone_93 : decode cL_isDone 93 = .ok (.goto 7, 3) := by decide +kernel
theorem dL_isDone_96 : decode cL_isDone 96 = .ok (.aload 7, 2) := by decide +kernel
theorem dL_isDone_98 : decode cL_isDone 98 = .ok (.iconst 0, 1) := by decide +kernel
theorem dL_isDone_99 : decode cL_isDone 99 = .ok (.iaload, 1) := by decide +kernel
theorem dL_isDone_100 : decode cL_isDone 100 = .ok (.irem, 1) := by decide +kernel
theorem dL_isDone_101 : decode cL_isDone 101 = .ok (.isub, 1) := by decide +kernel
theorem dL_isDone_102 : decode cL_isDone 102 = .ok (.istore 12, 2) := by decide +kernel
theorem dL_isDone_104 : decode cL_isDone 104 = .ok (.iload 8, 2) := by decide +kernel
theorem dL_isDone_106 : decode cL_isDone 106 = .ok (.bipush 6, 2) := by decide +kernel
theorem dL_isDone_108 : decode cL_isDone 108 = .ok (.if_icmp .ge 180, 3) := by decide +kernel
theorem dL_isDone_111 : decode cL_isDone 111 = .ok (.iload 9, 2) := by decide +kernel
theorem dL_isDone_113 : decode cL_isDone 113 = .ok (.bipush 6, 2) := by decide +kernel
theorem dL_isDone_115 : decode cL_isDone 115 = .ok (.irem, 1) := by decide +kernel
theorem dL_isDone_116 : decode cL_isDone 116 = .ok (.istore 13, 2) := by decide +kernel
theorem dL_isDone_118 : decode cL_isDone 118 = .ok (.iconst 0, 1) := by decide +kernel
theorem dL_isDone_119 : decode cL_isDone 119 = .ok (.istore 14, 2) := by decide +kernel
theorem dL_isDone_121 : decode cL_isDone 121 = .ok (.iconst 0, 1) := by decide +kernel
theorem dL_isDone_122 : decode cL_isDone 122 = .ok (.istore 15, 2) := by decide +kernel
theorem dL_isDone_124 : decode cL_isDone 124 = .ok (.iload 15, 2) := by decide +kernel
theorem dL_isDone_126 : decode cL_isDone 126 = .ok (.aload 7, 2) := by decide +kernel
theorem dL_isDone_128 : decode cL_isDone 128 = .ok (.iconst 0, 1) := by decide +kernel
theorem dL_isDone_129 : decode cL_isDone 129 = .ok (.iaload, 1) := by decide +kernel
theorem dL_isDone_130 : decode cL_isDone 130 = .ok (.if_icmp .ge 40, 3) := by decide +kernel
theorem dL_isDone_133 : decode cL_isDone 133 = .ok (.iload 14, 2) := by decide +kernel
theorem dL_isDone_135 : decode cL_isDone 135 = .ok (.ifCond .ne 22, 3) := by decide +kernel
theorem dL_isDone_138 : decode cL_isDone 138 = .ok (.aload_n 3, 1) := by decide +kernel
theorem dL_isDone_139 : decode cL_isDone 139 = .ok (.iload 15, 2) := by decide +kernel
theorem dL_isDone_141 : decode cL_isDone 141 = .ok (.iaload, 1) := by decide +kernel
theorem dL_isDone_142 : decode cL_isDone 142 = .ok (.iload 13, 2) := by decide +kernel
theorem dL_isDone_144 : decode cL_isDone 144 = .ok (.if_icmp .ne 17, 3) := by decide +kernel
theorem dL_isDone_147 : decode cL_isDone 147 = .ok (.aload_n 3, 1) := by decide +kernel
theorem dL_isDone_148 : decode cL_isDone 148 = .ok (.bipush 20, 2) := by decide +kernel
theorem dL_isDone_150 : decode cL_isDone 150 = .ok (.iload 15, 2) := by decide +kernel
theorem dL_isDone_152 : decode cL_isDone 152 = .ok (.iadd, 1) := by decide +kernel
theorem dL_isDone_153 : decode cL_isDone 153 = .ok (.iaload, 1) := by decide +kernel
theorem dL_isDone_154 : decode cL_isDone 154 = .ok (.ifCond .ne 7, 3) := by decide +kernel
theorem dL_isDone_157 : decode cL_isDone 157 = .ok (.iconst 1, 1) := by decide +kernel
theorem dL_isDone_158 : decode cL_isDone 158 = .ok (.goto 4, 3) := by decide +kernel
theorem dL_isDone_161 : decode cL_isDone 161 = .ok (.iconst 0, 1) := by decide +kernel
theorem dL_isDone_162 : decode cL_isDone 162 = .ok (.istore 14, 2) := by decide +kernel
theorem dL_isDone_164 : decode cL_isDone 164 = .ok (.iinc 15 1, 3) := by decide +kernel
theorem dL_isDone_167 : decode cL_isDone 167 = .ok (.goto (-43), 3) := by decide +kernel
theorem dL_isDone_170 : decode cL_isDone 170 = .ok (.aload 7, 2) := by decide +kernel
theorem dL_isDone_172 : decode cL_isDone 172 = .ok (.iconst 0, 1) := by decide +kernel
theorem dL_isDone_173 : decode cL_isDone 173 = .ok (.iaload, 1) := by decide +kernel
theorem dL_isDone_174 : decode cL_isDone 174 = .ok (.bipush 20, 2) := by decide +kernel
theorem dL_isDone_176 : decode cL_isDone 176 = .ok (.if_icmp .ne 30, 3) := by decide +kernel
theorem dL_isDone_179 : decode cL_isDone 179 = .ok (.iload 13, 2) := by decide +kernel
theorem dL_isDone_181 : decode cL_isDone 181 = .ok (.iconst 5, 1) := by decide +kernel
theorem dL_isDone_182 : decode cL_isDone 182 = .ok (.if_icmp .lt 18, 3) := by decide +kernel
theorem dL_isDone_185 : decode cL_isDone 185 = .ok (.aload_n 0, 1) := by decide +kernel
theorem dL_isDone_186 : decode cL_isDone 186 = .ok (.iconst 1, 1) := by decide +kernel
theorem dL_isDone_187 : decode cL_isDone 187 = .ok (.iload 13, 2) := by decide +kernel
theorem dL_isDone_189 : decode cL_isDone 189 = .ok (.iconst 0, 1) := by decide +kernel
theorem dL_isDone_190 : decode cL_isDone 190 = .ok (.iconst 0, 1) := by decide +kernel
theorem dL_isDone_191 : decode cL_isDone 191 = .ok (.iconst 0, 1) := by decide +kernel
theorem dL_isDone_192 : decode cL_isDone 192 = .ok (.invokestatic 120, 3) := by decide +kernel
theorem dL_isDone_195 : decode cL_isDone 195 = .ok (.bipush (-30), 2) := by decide +kernel
theorem dL_isDone_197 : decode cL_isDone 197 = .ok (.if_icmp .ne 7, 3) := by decide +kernel
theorem dL_isDone_200 : decode cL_isDone 200 = .ok (.iconst 1, 1) := by decide +kernel
theorem dL_isDone_201 : decode cL_isDone 201 = .ok (.goto 4, 3) := by decide +kernel
theorem dL_isDone_204 : decode cL_isDone 204 = .ok (.iconst 0, 1) := by decide +kernel
theorem dL_isDone_205 : decode cL_isDone 205 = .ok (.ireturn, 1) := by decide +kernel
theorem dL_isDone_206 : decode cL_isDone 206 = .ok (.iload 13, 2) := by decide +kernel
theorem dL_isDone_208 : decode cL_isDone 208 = .ok (.iconst 4, 1) := by decide +kernel
theorem dL_isDone_209 : decode cL_isDone 209 = .ok (.if_icmp .le 8, 3) := by decide +kernel
theorem dL_isDone_212 : decode cL_isDone 212 = .ok (.bipush (-30), 2) := by decide +kernel
theorem dL_isDone_214 : decode cL_isDone 214 = .ok (.goto 17, 3) := by decide +kernel
theorem dL_isDone_217 : decode cL_isDone 217 = .ok (.iload 14, 2) := by decide +kernel
theorem dL_isDone_219 : decode cL_isDone 219 = .ok (.ifCond .eq 8, 3) := by decide +kernel
theorem dL_isDone_222 : decode cL_isDone 222 = .ok (.bipush (-10), 2) := by decide +kernel
theorem dL_isDone_224 : decode cL_isDone 224 = .ok (.goto 7, 3) := by decide +kernel
theorem dL_isDone_227 : decode cL_isDone 227 = .ok (.aload 7, 2) := by decide +kernel
theorem dL_isDone_229 : decode cL_isDone 229 = .ok (.iconst 0, 1) := by decide +kernel
theorem dL_isDone_230 : decode cL_isDone 230 = .ok (.iaload, 1) := by decide +kernel
theorem dL_isDone_231 : decode cL_isDone 231 = .ok (.istore 15, 2) := by decide +kernel
theorem dL_isDone_233 : decode cL_isDone 233 = .ok (.aload_n 3, 1) := by decide +kernel
theorem dL_isDone_234 : decode cL_isDone 234 = .ok (.aload 7, 2) := by decide +kernel
theorem dL_isDone_236 : decode cL_isDone 236 = .ok (.iconst 0, 1) := by decide +kernel
theorem dL_isDone_237 : decode cL_isDone 237 = .ok (.iaload, 1) := by decide +kernel
theorem dL_isDone_238 : decode cL_isDone 238 = .ok (.iload 15, 2) := by decide +kernel
theorem dL_isDone_240 : decode cL_isDone 240 = .ok (.ifCond .ge 7, 3) := by decide +kernel
theorem dL_isDone_243 : decode cL_isDone 243 = .ok (.iconst 0, 1) := by decide +kernel
theorem dL_isDone_244 : decode cL_isDone 244 = .ok (.goto 5, 3) := by decide +kernel
theorem dL_isDone_247 : decode cL_isDone 247 = .ok (.iload 13, 2) := by decide +kernel
theorem dL_isDone_249 : decode cL_isDone 249 = .ok (.iastore, 1) := by decide +kernel
theorem dL_isDone_250 : decode cL_isDone 250 = .ok (.aload 7, 2) := by decide +kernel
theorem dL_isDone_252 : decode cL_isDone 252 = .ok (.iconst 0, 1) := by decide +kernel
theorem dL_isDone_253 : decode cL_isDone 253 = .ok (.dup2, 1) := by decide +kernel
theorem dL_isDone_254 : decode cL_isDone 254 = .ok (.iaload, 1) := by decide +kernel
theorem dL_isDone_255 : decode cL_isDone 255 = .ok (.iload 15, 2) := by decide +kernel
theorem dL_isDone_257 : decode cL_isDone 257 = .ok (.ifCond .ge 7, 3) := by decide +kernel
theorem dL_isDone_260 : decode cL_isDone 260 = .ok (.iconst 0, 1) := by decide +kernel
theorem dL_isDone_261 : decode cL_isDone 261 = .ok (.goto 4, 3) := by decide +kernel
theorem dL_isDone_264 : decode cL_isDone 264 = .ok (.iconst 1, 1) := by decide +kernel
theorem dL_isDone_265 : decode cL_isDone 265 = .ok (.iadd, 1) := by decide +kernel
theorem dL_isDone_266 : decode cL_isDone 266 = .ok (.iastore, 1) := by decide +kernel
theorem dL_isDone_267 : decode cL_isDone 267 = .ok (.aload_n 0, 1) := by decide +kernel
theorem dL_isDone_268 : decode cL_isDone 268 = .ok (.iconst 1, 1) := by decide +kernel
theorem dL_isDone_269 : decode cL_isDone 269 = .ok (.iload 13, 2) := by decide +kernel
theorem dL_isDone_271 : decode cL_isDone 271 = .ok (.iconst 0, 1) := by decide +kernel
theorem dL_isDone_272 : decode cL_isDone 272 = .ok (.iconst 0, 1) := by decide +kernel
theorem dL_isDone_273 : decode cL_isDone 273 = .ok (.iconst 0, 1) := by decide +kernel
theorem dL_isDone_274 : decode cL_isDone 274 = .ok (.invokestatic 120, 3) := by decide +kernel
theorem dL_isDone_277 : decode cL_isDone 277 = .ok (.iload 15, 2) := by decide +kernel
theorem dL_isDone_279 : decode cL_isDone 279 = .ok (.if_icmp .ne 7, 3) := by decide +kernel
theorem dL_isDone_282 : decode cL_isDone 282 = .ok (.iconst 1, 1) := by decide +kernel
theorem dL_isDone_283 : decode cL_isDone 283 = .ok (.goto 4, 3) := by decide +kernel
theorem dL_isDone_286 : decode cL_isDone 286 = .ok (.iconst 0, 1) := by decide +kernel
theorem dL_isDone_287 : decode cL_isDone 287 = .ok (.ireturn, 1) := by decide +kernel
theorem dL_isDone_288 : decode cL_isDone 288 = .ok (.iload 8, 2) := by decide +kernel
theorem dL_isDone_290 : decode cL_isDone 290 = .ok (.bipush 17, 2) := by decide +kernel
theorem dL_isDone_292 : decode cL_isDone 292 = .ok (.if_icmp .ge 54, 3) := by decide +kernel
theorem dL_isDone_295 : decode cL_isDone 295 = .ok (.aload_n 0, 1) := by decide +kernel
theorem dL_isDone_296 : decode cL_isDone 296 = .ok (.aload_n 3, 1) := by decide +kernel
theorem dL_isDone_297 : decode cL_isDone 297 = .ok (.aload 4, 2) := by decide +kernel
theorem dL_isDone_299 : decode cL_isDone 299 = .ok (.aload 7, 2) := by decide +kernel
theorem dL_isDone_301 : decode cL_isDone 301 = .ok (.iload 8, 2) := by decide +kernel
theorem dL_isDone_303 : decode cL_isDone 303 = .ok (.bipush 9, 2) := by decide +kernel
theorem dL_isDone_305 : decode cL_isDone 305 = .ok (.if_icmp .ge 7, 3) := by decide +kernel
theorem dL_isDone_308 : decode cL_isDone 308 = .ok (.iconst 2, 1) := by decide +kernel
theorem dL_isDone_309 : decode cL_isDone 309 = .ok (.goto 26, 3) := by decide +kernel
theorem dL_isDone_312 : decode cL_isDone 312 = .ok (.iload 8, 2) := by decide +kernel
theorem dL_isDone_314 : decode cL_isDone 314 = .ok (.bipush 9, 2) := by decide +kernel
theorem dL_isDone_316 : decode cL_isDone 316 = .ok (.if_icmp .ne 7, 3) := by decide +kernel
theorem dL_isDone_319 : decode cL_isDone 319 = .ok (.iconst 3, 1) := by decide +kernel
theorem dL_isDone_320 : decode cL_isDone 320 = .ok (.goto 15, 3) := by decide +kernel
theorem dL_isDone_323 : decode cL_isDone 323 = .ok (.iload 8, 2) := by decide +kernel
theorem dL_isDone_325 : decode cL_isDone 325 = .ok (.bipush 15, 2) := by decide +kernel
theorem dL_isDone_327 : decode cL_isDone 327 = .ok (.if_icmp .ge 7, 3) := by decide +kernel
theorem dL_isDone_330 : decode cL_isDone 330 = .ok (.iconst 4, 1) := by decide +kernel
theorem dL_isDone_331 : decode cL_isDone 331 = .ok (.goto 4, 3) := by decide +kernel
theorem dL_isDone_334 : decode cL_isDone 334 = .ok (.iconst 5, 1) := by decide +kernel
theorem dL_isDone_335 : decode cL_isDone 335 = .ok (.iload 12, 2) := by decide +kernel
theorem dL_isDone_337 : decode cL_isDone 337 = .ok (.iload 10, 2) := by decide +kernel
theorem dL_isDone_339 : decode cL_isDone 339 = .ok (.bipush 11, 2) := by decide +kernel
theorem dL_isDone_341 : decode cL_isDone 341 = .ok (.irem, 1) := by decide +kernel
theorem dL_isDone_342 : decode cL_isDone 342 = .ok (.invokestatic 131, 3) := by decide +kernel
theorem dL_isDone_345 : decode cL_isDone 345 = .ok (.ireturn, 1) := by decide +kernel
theorem dL_isDone_346 : decode cL_isDone 346 = .ok (.iload 8, 2) := by decide +kernel
theorem dL_isDone_348 : decode cL_isDone 348 = .ok (.bipush 24, 2) := by decide +kernel
theorem dL_isDone_350 : decode cL_isDone 350 = .ok (.if_icmp .ge 23, 3) := by decide +kernel
theorem dL_isDone_353 : decode cL_isDone 353 = .ok (.aload_n 0, 1) := by decide +kernel
theorem dL_isDone_354 : decode cL_isDone 354 = .ok (.aload_n 3, 1) := by decide +kernel
theorem dL_isDone_355 : decode cL_isDone 355 = .ok (.aload 7, 2) := by decide +kernel
theorem dL_isDone_357 : decode cL_isDone 357 = .ok (.iload 12, 2) := by decide +kernel
theorem dL_isDone_359 : decode cL_isDone 359 = .ok (.iload 10, 2) := by decide +kernel
theorem dL_isDone_361 : decode cL_isDone 361 = .ok (.bipush 102, 2) := by decide +kernel
theorem dL_isDone_363 : decode cL_isDone 363 = .ok (.irem, 1) := by decide +kernel
theorem dL_isDone_364 : decode cL_isDone 364 = .ok (.iload 11, 2) := by decide +kernel
theorem dL_isDone_366 : decode cL_isDone 366 = .ok (.bipush 122, 2) := by decide +kernel
theorem dL_isDone_368 : decode cL_isDone 368 = .ok (.irem, 1) := by decide +kernel
theorem dL_isDone_369 : decode cL_isDone 369 = .ok (.invokestatic 135, 3) := by decide +kernel
theorem dL_isDone_372 : decode cL_isDone 372 = .ok (.ireturn, 1) := by decide +kernel
theorem dL_isDone_373 : decode cL_isDone 373 = .ok (.iload 8, 2) := by decide +kernel
theorem dL_isDone_375 : decode cL_isDone 375 = .ok (.bipush 28, 2) := by decide +kernel
theorem dL_isDone_377 : decode cL_isDone 377 = .ok (.if_icmp .ge 15, 3) := by decide +kernel
theorem dL_isDone_380 : decode cL_isDone 380 = .ok (.aload_n 0, 1) := by decide +kernel
theorem dL_isDone_381 : decode cL_isDone 381 = .ok (.aload_n 3, 1) := by decide +kernel
theorem dL_isDone_382 : decode cL_isDone 382 = .ok (.aload 4, 2) := by decide +kernel
theorem dL_isDone_384 : decode cL_isDone 384 = .ok (.aload 7, 2) := by decide +kernel
theorem dL_isDone_386 : decode cL_isDone 386 = .ok (.iload 12, 2) := by decide +kernel
theorem dL_isDone_388 : decode cL_isDone 388 = .ok (.invokestatic 139, 3) := by decide +kernel
theorem dL_isDone_391 : decode cL_isDone 391 = .ok (.ireturn, 1) := by decide +kernel
theorem dL_isDone_392 : decode cL_isDone 392 = .ok (.iload 8, 2) := by decide +kernel
theorem dL_isDone_394 : decode cL_isDone 394 = .ok (.bipush 36, 2) := by decide +kernel
theorem dL_isDone_396 : decode cL_isDone 396 = .ok (.if_icmp .ge 69, 3) := by decide +kernel
theorem dL_isDone_399 : decode cL_isDone 399 = .ok (.aload_n 0, 1) := by decide +kernel
theorem dL_isDone_400 : decode cL_isDone 400 = .ok (.aload_n 3, 1) := by decide +kernel
theorem dL_isDone_401 : decode cL_isDone 401 = .ok (.aload 5, 2) := by decide +kernel
theorem dL_isDone_403 : decode cL_isDone 403 = .ok (.aload 6, 2) := by decide +kernel
theorem dL_isDone_405 : decode cL_isDone 405 = .ok (.aload 7, 2) := by decide +kernel
theorem dL_isDone_407 : decode cL_isDone 407 = .ok (.aload 7, 2) := by decide +kernel
theorem dL_isDone_409 : decode cL_isDone 409 = .ok (.iconst 0, 1) := by decide +kernel
theorem dL_isDone_410 : decode cL_isDone 410 = .ok (.iaload, 1) := by decide +kernel
theorem dL_isDone_411 : decode cL_isDone 411 = .ok (.ifCond .ne 7, 3) := by decide +kernel
theorem dL_isDone_414 : decode cL_isDone 414 = .ok (.iconst 0, 1) := by decide +kernel
theorem dL_isDone_415 : decode cL_isDone 415 = .ok (.goto 12, 3) := by decide +kernel
theorem dL_isDone_418 : decode cL_isDone 418 = .ok (.iload 9, 2) := by decide +kernel
theorem dL_isDone_420 : decode cL_isDone 420 = .ok (.aload 7, 2) := by decide +kernel
theorem dL_isDone_422 : decode cL_isDone 422 = .ok (.iconst 0, 1) := by decide +kernel
theorem dL_isDone_423 : decode cL_isDone 423 = .ok (.iaload, 1) := by decide +kernel
theorem dL_isDone_424 : decode cL_isDone 424 = .ok (.iconst 1, 1) := by decide +kernel
theorem dL_isDone_425 : decode cL_isDone 425 = .ok (.iadd, 1) := by decide +kernel
theorem dL_isDone_426 : decode cL_isDone 426 = .ok (.irem, 1) := by decide +kernel
theorem dL_isDone_427 : decode cL_isDone 427 = .ok (.iload 10, 2) := by decide +kernel
theorem dL_isDone_429 : decode cL_isDone 429 = .ok (.bipush 11, 2) := by decide +kernel
theorem dL_isDone_431 : decode cL_isDone 431 = .ok (.irem, 1) := by decide +kernel
theorem dL_isDone_432 : decode cL_isDone 432 = .ok (.iload 10, 2) := by decide +kernel
theorem dL_isDone_434 : decode cL_isDone 434 = .ok (.iconst 3, 1) := by decide +kernel
theorem dL_isDone_435 : decode cL_isDone 435 = .ok (.irem, 1) := by decide +kernel
theorem dL_isDone_436 : decode cL_isDone 436 = .ok (.ifCond .ne 8, 3) := by decide +kernel
theorem dL_isDone_439 : decode cL_isDone 439 = .ok (.bipush 100, 2) := by decide +kernel
theorem dL_isDone_441 : decode cL_isDone 441 = .ok (.goto 8, 3) := by decide +kernel
theorem dL_isDone_444 : decode cL_isDone 444 = .ok (.iload 11, 2) := by decide +kernel
theorem dL_isDone_446 : decode cL_isDone 446 = .ok (.bipush 103, 2) := by decide +kernel
theorem dL_isDone_448 : decode cL_isDone 448 = .ok (.irem, 1) := by decide +kernel
theorem dL_isDone_449 : decode cL_isDone 449 = .ok (.iload 9, 2) := by decide +kernel
theorem dL_isDone_451 : decode cL_isDone 451 = .ok (.iconst 2, 1) := by decide +kernel
theorem dL_isDone_452 : decode cL_isDone 452 = .ok (.irem, 1) := by decide +kernel
theorem dL_isDone_453 : decode cL_isDone 453 = .ok (.ifCond .ne 7, 3) := by decide +kernel
theorem dL_isDone_456 : decode cL_isDone 456 = .ok (.iconst 1, 1) := by decide +kernel
theorem dL_isDone_457 : decode cL_isDone 457 = .ok (.goto 4, 3) := by decide +kernel
theorem dL_isDone_460 : decode cL_isDone 460 = .ok (.iconst 0, 1) := by decide +kernel
theorem dL_isDone_461 : decode cL_isDone 461 = .ok (.invokestatic 143, 3) := by decide +kernel
theorem dL_isDone_464 : decode cL_isDone 464 = .ok (.ireturn, 1) := by decide +kernel
theorem dL_isDone_465 : decode cL_isDone 465 = .ok (.iload 8, 2) := by decide +kernel
theorem dL_isDone_467 : decode cL_isDone 467 = .ok (.bipush 38, 2) := by decide +kernel
theorem dL_isDone_469 : decode cL_isDone 469 = .ok (.if_icmp .ge 11, 3) := by decide +kernel
theorem dL_isDone_472 : decode cL_isDone 472 = .ok (.aload_n 0, 1) := by decide +kernel
theorem dL_isDone_473 : decode cL_isDone 473 = .ok (.aload_n 3, 1) := by decide +kernel
theorem dL_isDone_474 : decode cL_isDone 474 = .ok (.aload 7, 2) := by decide +kernel
theorem dL_isDone_476 : decode cL_isDone 476 = .ok (.invokestatic 147, 3) := by decide +kernel
theorem dL_isDone_479 : decode cL_isDone 479 = .ok (.ireturn, 1) := by decide +kernel
theorem dL_isDone_480 : decode cL_isDone 480 = .ok (.iload 9, 2) := by decide +kernel
theorem dL_isDone_482 : decode cL_isDone 482 = .ok (.sipush 1002, 3) := by decide +kernel
theorem dL_isDone_485 : decode cL_isDone 485 = .ok (.irem, 1) := by decide +kernel
theorem dL_isDone_486 : decode cL_isDone 486 = .ok (.sipush 1001, 3) := by decide +kernel
theorem dL_isDone_489 : decode cL_isDone 489 = .ok (.if_icmp .ge 19, 3) := by decide +kernel
theorem dL_isDone_492 : decode cL_isDone 492 = .ok (.iload 10, 2) := by decide +kernel
theorem dL_isDone_494 : decode cL_isDone 494 = .ok (.sipush 1002, 3) := by decide +kernel
theorem dL_isDone_497 : decode cL_isDone 497 = .ok (.irem, 1) := by decide +kernel
theorem dL_isDone_498 : decode cL_isDone 498 = .ok (.sipush 1001, 3) := by decide +kernel
theorem dL_isDone_501 : decode cL_isDone 501 = .ok (.if_icmp .ge 7, 3) := by decide +kernel
theorem dL_isDone_504 : decode cL_isDone 504 = .ok (.iconst 1, 1) := by decide +kernel
theorem dL_isDone_505 : decode cL_isDone 505 = .ok (.goto 4, 3) := by decide +kernel
theorem dL_isDone_508 : decode cL_isDone 508 = .ok (.iconst 0, 1) := by decide +kernel
theorem dL_isDone_509 : decode cL_isDone 509 = .ok (.istore 13, 2) := by decide +kernel
theorem dL_isDone_511 : decode cL_isDone 511 = .ok (.aload 7, 2) := by decide +kernel
theorem dL_isDone_513 : decode cL_isDone 513 = .ok (.iconst 2, 1) := by decide +kernel
theorem dL_isDone_514 : decode cL_isDone 514 = .ok (.iload 13, 2) := by decide +kernel
theorem dL_isDone_516 : decode cL_isDone 516 = .ok (.ifCond .eq 12, 3) := by decide +kernel
theorem dL_isDone_519 : decode cL_isDone 519 = .ok (.iload 9, 2) := by decide +kernel
theorem dL_isDone_521 : decode cL_isDone 521 = .ok (.sipush 1002, 3) := by decide +kernel
theorem dL_isDone_524 : decode cL_isDone 524 = .ok (.irem, 1) := by decide +kernel
theorem dL_isDone_525 : decode cL_isDone 525 = .ok (.goto 7, 3) := by decide +kernel
theorem dL_isDone_528 : decode cL_isDone 528 = .ok (.aload 7, 2) := by decide +kernel
theorem dL_isDone_530 : decode cL_isDone 530 = .ok (.iconst 2, 1) := by decide +kernel
theorem dL_isDone_531 : decode cL_isDone 531 = .ok (.iaload, 1) := by decide +kernel
theorem dL_isDone_532 : decode cL_isDone 532 = .ok (.iastore, 1) := by decide +kernel
theorem dL_isDone_533 : decode cL_isDone 533 = .ok (.aload 7, 2) := by decide +kernel
theorem dL_isDone_535 : decode cL_isDone 535 = .ok (.iconst 3, 1) := by decide +kernel
theorem dL_isDone_536 : decode cL_isDone 536 = .ok (.iload 13, 2) := by decide +kernel
theorem dL_isDone_538 : decode cL_isDone 538 = .ok (.ifCond .eq 12, 3) := by decide +kernel
theorem dL_isDone_541 : decode cL_isDone 541 = .ok (.iload 10, 2) := by decide +kernel
theorem dL_isDone_543 : decode cL_isDone 543 = .ok (.sipush 1002, 3) := by decide +kernel
theorem dL_isDone_546 : decode cL_isDone 546 = .ok (.irem, 1) := by decide +kernel
theorem dL_isDone_547 : decode cL_isDone 547 = .ok (.goto 7, 3) := by decide +kernel
theorem dL_isDone_550 : decode cL_isDone 550 = .ok (.aload 7, 2) := by decide +kernel
theorem dL_isDone_552 : decode cL_isDone 552 = .ok (.iconst 3, 1) := by decide +kernel
theorem dL_isDone_553 : decode cL_isDone 553 = .ok (.iaload, 1) := by decide +kernel
theorem dL_isDone_554 : decode cL_isDone 554 = .ok (.iastore, 1) := by decide +kernel
theorem dL_isDone_555 : decode cL_isDone 555 = .ok (.aload_n 0, 1) := by decide +kernel
theorem dL_isDone_556 : decode cL_isDone 556 = .ok (.iconst 0, 1) := by decide +kernel
theorem dL_isDone_557 : decode cL_isDone 557 = .ok (.iload 9, 2) := by decide +kernel
theorem dL_isDone_559 : decode cL_isDone 559 = .ok (.sipush 1002, 3) := by decide +kernel
theorem dL_isDone_562 : decode cL_isDone 562 = .ok (.irem, 1) := by decide +kernel
theorem dL_isDone_563 : decode cL_isDone 563 = .ok (.iload 10, 2) := by decide +kernel
theorem dL_isDone_565 : decode cL_isDone 565 = .ok (.sipush 1002, 3) := by decide +kernel
theorem dL_isDone_568 : decode cL_isDone 568 = .ok (.irem, 1) := by decide +kernel
theorem dL_isDone_569 : decode cL_isDone 569 = .ok (.iconst 0, 1) := by decide +kernel
theorem dL_isDone_570 : decode cL_isDone 570 = .ok (.iconst 0, 1) := by decide +kernel
theorem dL_isDone_571 : decode cL_isDone 571 = .ok (.invokestatic 120, 3) := by decide +kernel
theorem dL_isDone_574 : decode cL_isDone 574 = .ok (.iload 13, 2) := by decide +kernel
theorem dL_isDone_576 : decode cL_isDone 576 = .ok (.ifCond .eq 7, 3) := by decide +kernel
theorem dL_isDone_579 : decode cL_isDone 579 = .ok (.iconst 0, 1) := by decide +kernel
theorem dL_isDone_580 : decode cL_isDone 580 = .ok (.goto 5, 3) := by decide +kernel
theorem dL_isDone_583 : decode cL_isDone 583 = .ok (.bipush (-20), 2) := by decide +kernel
theorem dL_isDone_585 : decode cL_isDone 585 = .ok (.if_icmp .ne 7, 3) := by decide +kernel
theorem dL_isDone_588 : decode cL_isDone 588 = .ok (.iconst 1, 1) := by decide +kernel
theorem dL_isDone_589 : decode cL_isDone 589 = .ok (.goto 4, 3) := by decide +kernel
theorem dL_isDone_592 : decode cL_isDone 592 = .ok (.iconst 0, 1) := by decide +kernel
theorem dL_isDone_593 : decode cL_isDone 593 = .ok (.ireturn, 1) := by decide +kernel
set_option maxRecDepth 20000 in
theorem ggL_law_X1_init : GoodIn wsL_law wsX1_init := goodIn_r _ [9, 10, 11, 12, 13, 14, 15, 16, 3, 17, 18, 19, 20, 21, 22, 23, 24, 25, 26, 27, 28, 29, 30, 31, 32, 33, 34, 35, 464, 465, 466, 459, 460, 461, 462, 463] (by decide +kernel) (by decide +kernel)
set_option maxRecDepth 20000 in
theorem gL_law_X1_init : GoodIn wsL_law (wsX1_init) := ggL_law_X1_init
set_option maxRecDepth 20000 in
theorem ggL_law_L_isMoney : GoodIn wsL_law wsL_isMoney := goodIn_ca (goodIn_ca (goodIn_ca (goodIn_r _ [39, 40, 5, 4, 41, 42, 43, 2, 44, 16, 45, 20, 46, 47, 48, 15, 49, 50, 51, 52, 53, 54, 55, 56, 57, 58, 59, 60, 61, 62, 63, 64, 65, 66, 25, 67, 68, 69, 70, 71, 72, 73, 74, 75, 76, 77, 78, 79, 80, 81, 82, 83, 84, 85, 86, 87, 88, 89, 90, 91, 92, 93, 94, 95, 96, 97, 98, 99, 100, 101, 102, 103, 104, 105, 106, 107, 108, 109, 110, 111, 112, 113, 114, 115, 116, 117, 118, 119, 120, 121, 122, 123, 124, 125, 126, 127, 128, 129, 130, 131, 132, 133, 134, 135, 136, 137, 138, 139, 140, 141, 142, 143, 144, 145, 146, 147, 148, 149, 150, 151, 152, 153, 154, 155, 156, 157, 158, 159, 160, 161, 162, 163, 164, 165, 166, 167, 168, 169, 170, 171, 172, 173, 174, 175, 176, 177, 178, 179, 180, 38, 181, 182, 183, 6, 184, 185, 186, 187, 188, 189, 190, 191, 192, 193, 194, 195, 196, 197, 198, 199, 200, 201, 202, 203, 204, 205, 206, 207, 208, 209, 210, 211, 212, 213, 214, 215, 216, 217, 218, 219, 220, 221, 222, 223, 224, 225, 226, 227, 228, 229, 17, 230, 231, 232, 233, 234, 235, 236, 237, 238, 239, 240, 241, 242, 243, 244, 245, 246, 247, 248, 249, 250, 459, 460, 461, 462, 463, 464, 465, 466, 467, 468, 469, 470, 471, 472, 473, 474, 475, 476, 477] rfl (by decide +kernel)) (goodIn_sub (fun _ h => List.mem_append_left _ (List.mem_append_left _ (List.mem_append_right _ h))) (by decide +kernel))) (goodIn_sub (fun _ h => List.mem_append_left _ (List.mem_append_right _ h)) (by decide +kernel))) (goodIn_sub (fun _ h => List.mem_append_right _ h) (by decide +kernel))
set_option maxRecDepth 20000 in
theorem gL_law_L_isMoney : GoodIn wsL_law (va_wsS RL 152 yL_isMoney wsL_isMoney) := goodIn_app (goodIn_of _ (by decide +kernel)) ggL_law_L_isMoney
set_option maxRecDepth 20000 in
theorem ggL_law_L_areRides : GoodIn wsL_law wsL_areRides := goodIn_ca (goodIn_ca (goodIn_r _ [253, 4, 234, 235, 38, 236, 182, 237, 5, 238, 239, 240, 2, 241, 166, 167, 168, 169, 170, 171, 16, 45, 46, 47, 48, 15, 49, 50, 51, 52, 53, 54, 55, 56, 57, 58, 59, 60, 61, 62, 63, 64, 65, 66, 25, 242, 243, 244, 70, 245, 246, 162, 163, 164, 165, 172, 173, 174, 175, 176, 177, 178, 77, 247, 248, 249, 250, 125, 126, 127, 128, 109, 82, 72, 110, 111, 112, 198, 199, 200, 201, 20, 202, 203, 204, 205, 206, 207, 208, 209, 91, 92, 93, 94, 95, 96, 97, 98, 99, 100, 101, 102, 103, 104, 105, 106, 107, 108, 214, 215, 216, 217, 113, 114, 115, 116, 117, 118, 119, 120, 121, 122, 123, 124, 129, 130, 131, 132, 133, 210, 211, 212, 213, 134, 135, 136, 137, 138, 139, 140, 218, 219, 220, 221, 87, 88, 89, 90, 222, 223, 224, 225, 226, 227, 228, 229, 17, 83, 84, 85, 86, 230, 231, 232, 233, 190, 191, 192, 193, 67, 68, 69, 71, 194, 195, 196, 197, 254, 255, 256, 459, 460, 461, 462, 463, 464, 465, 466, 467, 468, 469, 470, 471, 472, 473, 474, 475, 476, 477] rfl (by decide +kernel)) (goodIn_sub (fun _ h => List.mem_append_left _ (List.mem_append_left _ (List.mem_append_right _ h))) (by decide +kernel))) (goodIn_sub (fun _ h => List.mem_append_right _ h) (by decide +kernel))
