theorem dL_isDriven_284 : decode cL_isDriven 284 = .ok (.iload 15, 2) := by decide +kernel
theorem dL_isDriven_286 : decode cL_isDriven 286 = .ok (.iload 11, 2) := by decide +kernel
theorem dL_isDriven_288 : decode cL_isDriven 288 = .ok (.if_icmp .gt 29, 3) := by decide +kernel
theorem dL_isDriven_291 : decode cL_isDriven 291 = .ok (.iload 15, 2) := by decide +kernel
theorem dL_isDriven_293 : decode cL_isDriven 293 = .ok (.iload 9, 2) := by decide +kernel
theorem dL_isDriven_295 : decode cL_isDriven 295 = .ok (.iload 8, 2) := by decide +kernel
theorem dL_isDriven_297 : decode cL_isDriven 297 = .ok (.idiv, 1) := by decide +kernel
theorem dL_isDriven_298 : decode cL_isDriven 298 = .ok (.if_icmp .lt 19, 3) := by decide +kernel
theorem dL_isDriven_301 : decode cL_isDriven 301 = .ok (.iload 15, 2) := by decide +kernel
theorem dL_isDriven_303 : decode cL_isDriven 303 = .ok (.iload 9, 2) := by decide +kernel
theorem dL_isDriven_305 : decode cL_isDriven 305 = .ok (.iload 8, 2) := by decide +kernel
theorem dL_isDriven_307 : decode cL_isDriven 307 = .ok (.idiv, 1) := by decide +kernel
theorem dL_isDriven_308 : decode cL_isDriven 308 = .ok (.iconst 1, 1) := by decide +kernel
theorem dL_isDriven_309 : decode cL_isDriven 309 = .ok (.iadd, 1) := by decide +kernel
theorem dL_isDriven_310 : decode cL_isDriven 310 = .ok (.if_icmp .gt 7, 3) := by decide +kernel
theorem dL_isDriven_313 : decode cL_isDriven 313 = .ok (.iconst 1, 1) := by decide +kernel
theorem dL_isDriven_314 : decode cL_isDriven 314 = .ok (.goto 17, 3) := by decide +kernel
theorem dL_isDriven_317 : decode cL_isDriven 317 = .ok (.iconst 0, 1) := by decide +kernel
theorem dL_isDriven_318 : decode cL_isDriven 318 = .ok (.goto 13, 3) := by decide +kernel
theorem dL_isDriven_321 : decode cL_isDriven 321 = .ok (.iload 15, 2) := by decide +kernel
theorem dL_isDriven_323 : decode cL_isDriven 323 = .ok (.ifCond .ne 7, 3) := by decide +kernel
theorem dL_isDriven_326 : decode cL_isDriven 326 = .ok (.iconst 1, 1) := by decide +kernel
theorem dL_isDriven_327 : decode cL_isDriven 327 = .ok (.goto 4, 3) := by decide +kernel
theorem dL_isDriven_330 : decode cL_isDriven 330 = .ok (.iconst 0, 1) := by decide +kernel
theorem dL_isDriven_331 : decode cL_isDriven 331 = .ok (.istore 13, 2) := by decide +kernel
theorem dL_isDriven_333 : decode cL_isDriven 333 = .ok (.iload 16, 2) := by decide +kernel
theorem dL_isDriven_335 : decode cL_isDriven 335 = .ok (.ifCond .eq 8, 3) := by decide +kernel
theorem dL_isDriven_338 : decode cL_isDriven 338 = .ok (.iload 15, 2) := by decide +kernel
theorem dL_isDriven_340 : decode cL_isDriven 340 = .ok (.goto 5, 3) := by decide +kernel
theorem dL_isDriven_343 : decode cL_isDriven 343 = .ok (.iload 11, 2) := by decide +kernel
theorem dL_isDriven_345 : decode cL_isDriven 345 = .ok (.istore 11, 2) := by decide +kernel
theorem dL_isDriven_347 : decode cL_isDriven 347 = .ok (.iload 10, 2) := by decide +kernel
theorem dL_isDriven_349 : decode cL_isDriven 349 = .ok (.aload_n 0, 1) := by decide +kernel
theorem dL_isDriven_350 : decode cL_isDriven 350 = .ok (.iload_n 3, 1) := by decide +kernel
theorem dL_isDriven_351 : decode cL_isDriven 351 = .ok (.iload 14, 2) := by decide +kernel
theorem dL_isDriven_353 : decode cL_isDriven 353 = .ok (.invokevirtual 64, 3) := by decide +kernel
theorem dL_isDriven_356 : decode cL_isDriven 356 = .ok (.iadd, 1) := by decide +kernel
theorem dL_isDriven_357 : decode cL_isDriven 357 = .ok (.istore 10, 2) := by decide +kernel
theorem dL_isDriven_359 : decode cL_isDriven 359 = .ok (.iinc 14 1, 3) := by decide +kernel
theorem dL_isDriven_362 : decode cL_isDriven 362 = .ok (.goto (-128), 3) := by decide +kernel
theorem dL_isDriven_365 : decode cL_isDriven 365 = .ok (.iload 13, 2) := by decide +kernel
theorem dL_isDriven_367 : decode cL_isDriven 367 = .ok (.ifCond .eq 24, 3) := by decide +kernel
theorem dL_isDriven_370 : decode cL_isDriven 370 = .ok (.iload 10, 2) := by decide +kernel
theorem dL_isDriven_372 : decode cL_isDriven 372 = .ok (.iload 9, 2) := by decide +kernel
theorem dL_isDriven_374 : decode cL_isDriven 374 = .ok (.if_icmp .ne 17, 3) := by decide +kernel
theorem dL_isDriven_377 : decode cL_isDriven 377 = .ok (.aload_n 0, 1) := by decide +kernel
theorem dL_isDriven_378 : decode cL_isDriven 378 = .ok (.iload_n 3, 1) := by decide +kernel
theorem dL_isDriven_379 : decode cL_isDriven 379 = .ok (.invokevirtual 61, 3) := by decide +kernel
theorem dL_isDriven_382 : decode cL_isDriven 382 = .ok (.iload 7, 2) := by decide +kernel
theorem dL_isDriven_384 : decode cL_isDriven 384 = .ok (.if_icmp .ne 7, 3) := by decide +kernel
theorem dL_isDriven_387 : decode cL_isDriven 387 = .ok (.iconst 1, 1) := by decide +kernel
theorem dL_isDriven_388 : decode cL_isDriven 388 = .ok (.goto 4, 3) := by decide +kernel
theorem dL_isDriven_391 : decode cL_isDriven 391 = .ok (.iconst 0, 1) := by decide +kernel
theorem dL_isDriven_392 : decode cL_isDriven 392 = .ok (.ireturn, 1) := by decide +kernel
set_option maxRecDepth 20000 in
theorem ggL_isFinished_L_does : GoodIn wsL_isFinished wsL_does := goodIn_ca (goodIn_ca (goodIn_ca (goodIn_r _ [4, 5, 6, 7, 8, 9, 3, 10, 11, 12, 13, 14, 15, 16, 17, 18, 19, 20, 21, 22, 23, 24, 25, 26, 27, 28, 29, 30, 31, 32, 33, 34, 35, 36, 37, 38, 39, 40, 41, 42, 43, 44, 45, 46, 47, 48, 49, 50, 51, 52, 53, 54, 55, 56, 57, 58, 59, 60, 61, 62, 63, 64, 65, 66, 67, 68, 69, 70, 71, 72, 73, 74, 75, 76, 77, 78, 79, 80, 81, 82, 83, 84, 85, 86, 87, 88, 89, 90, 91, 92, 93, 94, 95, 96, 97, 98, 99, 100, 101, 102, 103, 104, 105, 106, 107, 108, 109, 110, 111, 112, 113, 114, 115, 116, 117, 118, 119, 120, 121, 122, 123, 124, 125, 126, 127, 128, 129, 130, 131, 132, 133, 134, 135, 136, 137, 138, 139, 140, 141, 142, 143, 144, 145, 146, 147, 148, 149, 150, 151, 152, 153, 154, 155, 156, 157, 158, 159, 160, 161, 162, 163, 164, 165, 166, 167, 168, 169, 170, 171, 172, 173, 174, 175, 176, 177, 178, 179, 180, 181, 182, 183, 184, 185, 186, 187, 188, 189, 190, 191, 192, 193, 194, 195, 196, 197, 198, 199, 200, 201, 202, 203, 204, 205, 206, 207, 208, 209, 210, 211, 212, 213, 214, 215, 216, 217, 218, 219, 220, 221, 222, 223, 224, 225, 226, 227, 228, 229, 230, 231, 232, 233, 234, 235, 236, 237, 238, 239, 240, 241, 242, 243, 244, 245, 246, 247, 248, 249, 250, 251, 252, 253, 254, 255, 256, 257, 258, 259, 260, 261, 262, 263, 264, 265, 266, 267, 268, 269, 270, 271, 272, 273, 274, 275, 276, 277, 278, 279, 280, 281, 282, 283, 284, 285, 286, 287, 288, 289, 290, 291, 292, 293, 294, 295, 296, 297, 298, 299, 300, 301, 302, 303, 304, 305, 306, 307, 308, 309, 310, 311, 312, 313, 314, 315, 316, 317, 318, 319, 320, 321, 322, 323, 343, 344, 345, 346, 347, 348, 349, 350, 351, 352, 353, 354, 355, 356, 357, 358, 359, 360, 361] (by decide +kernel) (by decide +kernel)) (goodIn_sub (fun _ h => List.mem_cons_of_mem _ (List.mem_append_left _ (List.mem_append_left _ (List.mem_append_right _ h)))) (by decide +kernel))) (goodIn_sub (fun _ h => List.mem_cons_of_mem _ (List.mem_append_left _ (List.mem_append_right _ h))) (by decide +kernel))) (goodIn_sub (fun _ h => List.mem_cons_of_mem _ (List.mem_append_right _ h)) (by decide +kernel))
set_option maxRecDepth 20000 in
theorem gL_isFinished_L_does : GoodIn wsL_isFinished (va_wsS RL 120 yL_does wsL_does) := goodIn_app (goodIn_of _ (by decide +kernel)) ggL_isFinished_L_does
set_option maxRecDepth 20000 in
theorem ggL_isFinished_L_bits : GoodIn wsL_isFinished wsL_bits := goodIn_r _ [326] (by decide +kernel) (by decide +kernel)
set_option maxRecDepth 20000 in
theorem gL_isFinished_L_bits : GoodIn wsL_isFinished (va_wsS RL 117 yL_bits wsL_bits) := goodIn_app (goodIn_of _ (by decide +kernel)) ggL_isFinished_L_bits
set_option maxRecDepth 20000 in
theorem ggL_isFinished_X1_charge : GoodIn wsL_isFinished wsX1_charge := goodIn_ca (goodIn_r _ [330, 148, 149, 150, 14, 151, 37, 38, 29, 49, 39, 40, 41, 42, 43, 44, 50, 51, 52, 53, 54, 55, 56, 57, 58, 59, 60, 61, 62, 63, 64, 65, 66, 152, 153, 154, 211, 212, 213, 32, 214, 85, 343, 344, 345, 346, 347, 359, 360, 361, 348, 349, 350, 351, 352, 353, 354, 355, 356, 357, 358] (by decide +kernel) (by decide +kernel)) (goodIn_sub (fun _ h => List.mem_cons_of_mem _ (List.mem_append_right _ h)) (by decide +kernel))
set_option maxRecDepth 20000 in
theorem gL_isFinished_X1_charge : GoodIn wsL_isFinished (wsV RL 64 RX1 yX1_charge wsX1_charge) := goodIn_app (goodIn_of _ (by decide +kernel)) ggL_isFinished_X1_charge
set_option maxRecDepth 20000 in
theorem ggL_isFinished_X1_aboard : GoodIn wsL_isFinished wsX1_aboard := goodIn_ca (goodIn_r _ [334, 148, 149, 150, 14, 151, 37, 38, 29, 49, 39, 40, 41, 42, 43, 44, 50, 51, 52, 53, 54, 55, 56, 57, 58, 59, 60, 61, 62, 63, 64, 65, 66, 335, 336, 337, 32, 338, 170, 343, 344, 345, 346, 347, 359, 360, 361, 348, 349, 350, 351, 352, 353, 354, 355, 356, 357, 358] (by decide +kernel) (by decide +kernel)) (goodIn_sub (fun _ h => List.mem_cons_of_mem _ (List.mem_append_right _ h)) (by decide +kernel))
set_option maxRecDepth 20000 in
theorem gL_isFinished_X1_aboard : GoodIn wsL_isFinished (wsV RL 61 RX1 yX1_aboard wsX1_aboard) := goodIn_app (goodIn_of _ (by decide +kernel)) ggL_isFinished_X1_aboard
set_option maxRecDepth 20000 in
theorem ggL_isFinished_X1_isVoid : GoodIn wsL_isFinished wsX1_isVoid := goodIn_ca (goodIn_r _ [342, 148, 149, 150, 14, 151, 37, 38, 29, 49, 39, 40, 41, 42, 43, 44, 50, 51, 52, 53, 54, 55, 56, 57, 58, 59, 60, 61, 62, 63, 64, 65, 66, 309, 310, 311, 32, 312, 85, 261, 86, 76, 163, 164, 165, 343, 344, 345, 346, 347, 359, 360, 361, 348, 349, 350, 351, 352, 353, 354, 355, 356, 357, 358] (by decide +kernel) (by decide +kernel)) (goodIn_sub (fun _ h => List.mem_cons_of_mem _ (List.mem_append_right _ h)) (by decide +kernel))
set_option maxRecDepth 20000 in
theorem gL_isFinished_X1_isVoid : GoodIn wsL_isFinished (wsV RL 67 RX1 yX1_isVoid wsX1_isVoid) := goodIn_app (goodIn_of _ (by decide +kernel)) ggL_isFinished_X1_isVoid
theorem dL_isFinished_0 : decode cL_isFinished 0 = .ok (.iload 4, 2) := by decide +kernel
theorem dL_isFinished_2 : decode cL_isFinished 2 = .ok (.aload_n 3, 1) := by decide +kernel
theorem dL_isFinished_3 : decode cL_isFinished 3 = .ok (.iconst 0, 1) := by decide +kernel
theorem dL_isFinished_4 : decode cL_isFinished 4 = .ok (.iaload, 1) := by decide +kernel
theorem dL_isFinished_5 : decode cL_isFinished 5 = .ok (.if_icmp .ge 14, 3) := by decide +kernel
theorem dL_isFinished_8 : decode cL_isFinished 8 = .ok (.aload_n 1, 1) := by decide +kernel
theorem dL_isFinished_9 : decode cL_isFinished 9 = .ok (.bipush 20, 2) := by decide +kernel
theorem dL_isFinished_11 : decode cL_isFinished 11 = .ok (.iload 4, 2) := by decide +kernel
theorem dL_isFinished_13 : decode cL_isFinished 13 = .ok (.iadd, 1) := by decide +kernel
theorem dL_isFinished_14 : decode cL_isFinished 14 = .ok (.iaload, 1) := by decide +kernel
theorem dL_isFinished_15 : decode cL_isFinished 15 = .ok (.iconst 1, 1) := by decide +kernel
theorem dL_isFinished_16 : decode cL_isFinished 16 = .ok (.if_icmp .ne 38, 3) := by decide +kernel
theorem dL_isFinished_19 : decode cL_isFinished 19 = .ok (.aload_n 0, 1) := by decide +kernel
theorem dL_isFinished_20 : decode cL_isFinished 20 = .ok (.bipush 7, 2) := by decide +kernel
theorem dL_isFinished_22 : decode cL_isFinished 22 = .ok (.iload 4, 2) := by decide +kernel
theorem dL_isFinished_24 : decode cL_isFinished 24 = .ok (.iconst 0, 1) := by decide +kernel
theorem dL_isFinished_25 : decode cL_isFinished 25 = .ok (.iconst 0, 1) := by decide +kernel
theorem dL_isFinished_26 : decode cL_isFinished 26 = .ok (.iconst 0, 1) := by decide +kernel
theorem dL_isFinished_27 : decode cL_isFinished 27 = .ok (.invokestatic 120, 3) := by decide +kernel
theorem dL_isFinished_30 : decode cL_isFinished 30 = .ok (.iload 4, 2) := by decide +kernel
theorem dL_isFinished_32 : decode cL_isFinished 32 = .ok (.aload_n 3, 1) := by decide +kernel
theorem dL_isFinished_33 : decode cL_isFinished 33 = .ok (.iconst 0, 1) := by decide +kernel
theorem dL_isFinished_34 : decode cL_isFinished 34 = .ok (.iaload, 1) := by decide +kernel
theorem dL_isFinished_35 : decode cL_isFinished 35 = .ok (.if_icmp .lt 8, 3) := by decide +kernel
theorem dL_isFinished_38 : decode cL_isFinished 38 = .ok (.bipush (-30), 2) := by decide +kernel
theorem dL_isFinished_40 : decode cL_isFinished 40 = .ok (.goto 5, 3) := by decide +kernel
theorem dL_isFinished_43 : decode cL_isFinished 43 = .ok (.bipush (-10), 2) := by decide +kernel
theorem dL_isFinished_45 : decode cL_isFinished 45 = .ok (.if_icmp .ne 7, 3) := by decide +kernel
theorem dL_isFinished_48 : decode cL_isFinished 48 = .ok (.iconst 1, 1) := by decide +kernel
theorem dL_isFinished_49 : decode cL_isFinished 49 = .ok (.goto 4, 3) := by decide +kernel
theorem dL_isFinished_52 : decode cL_isFinished 52 = .ok (.iconst 0, 1) := by decide +kernel
theorem dL_isFinished_53 : decode cL_isFinished 53 = .ok (.ireturn, 1) := by decide +kernel
theorem dL_isFinished_54 : decode cL_isFinished 54 = .ok (.sipush 400, 3) := by decide +kernel
theorem dL_isFinished_57 : decode cL_isFinished 57 = .ok (.aload_n 2, 1) := by decide +kernel
theorem dL_isFinished_58 : decode cL_isFinished 58 = .ok (.iload 4, 2) := by decide +kernel
theorem dL_isFinished_60 : decode cL_isFinished 60 = .ok (.iaload, 1) := by decide +kernel
theorem dL_isFinished_61 : decode cL_isFinished 61 = .ok (.invokestatic 117, 3) := by decide +kernel
theorem dL_isFinished_64 : decode cL_isFinished 64 = .ok (.imul, 1) := by decide +kernel
theorem dL_isFinished_65 : decode cL_isFinished 65 = .ok (.istore 5, 2) := by decide +kernel
theorem dL_isFinished_67 : decode cL_isFinished 67 = .ok (.iconst 0, 1) := by decide +kernel
theorem dL_isFinished_68 : decode cL_isFinished 68 = .ok (.istore 6, 2) := by decide +kernel
theorem dL_isFinished_70 : decode cL_isFinished 70 = .ok (.iload 6, 2) := by decide +kernel
theorem dL_isFinished_72 : decode cL_isFinished 72 = .ok (.bipush 10, 2) := by decide +kernel
theorem dL_isFinished_74 : decode cL_isFinished 74 = .ok (.if_icmp .ge 22, 3) := by decide +kernel
theorem dL_isFinished_77 : decode cL_isFinished 77 = .ok (.iload 5, 2) := by decide +kernel
theorem dL_isFinished_79 : decode cL_isFinished 79 = .ok (.aload_n 0, 1) := by decide +kernel
theorem dL_isFinished_80 : decode cL_isFinished 80 = .ok (.iload 4, 2) := by decide +kernel
theorem dL_isFinished_82 : decode cL_isFinished 82 = .ok (.iload 6, 2) := by decide +kernel
theorem dL_isFinished_84 : decode cL_isFinished 84 = .ok (.invokevirtual 64, 3) := by decide +kernel
theorem dL_isFinished_87 : decode cL_isFinished 87 = .ok (.iadd, 1) := by decide +kernel
theorem dL_isFinished_88 : decode cL_isFinished 88 = .ok (.istore 5, 2) := by decide +kernel
theorem dL_isFinished_90 : decode cL_isFinished 90 = .ok (.iinc 6 1, 3) := by decide +kernel
theorem dL_isFinished_93 : decode cL_isFinished 93 = .ok (.goto (-23), 3) := by decide +kernel
theorem dL_isFinished_96 : decode cL_isFinished 96 = .ok (.aload_n 2, 1) := by decide +kernel
theorem dL_isFinished_97 : decode cL_isFinished 97 = .ok (.iload 4, 2) := by decide +kernel
theorem dL_isFinished_99 : decode cL_isFinished 99 = .ok (.iconst 0, 1) := by decide +kernel
theorem dL_isFinished_100 : decode cL_isFinished 100 = .ok (.iastore, 1) := by decide +kernel
theorem dL_isFinished_101 : decode cL_isFinished 101 = .ok (.aload_n 1, 1) := by decide +kernel
theorem dL_isFinished_102 : decode cL_isFinished 102 = .ok (.bipush 20, 2) := by decide +kernel
theorem dL_isFinished_104 : decode cL_isFinished 104 = .ok (.iload 4, 2) := by decide +kernel
theorem dL_isFinished_106 : decode cL_isFinished 106 = .ok (.iadd, 1) := by decide +kernel
theorem dL_isFinished_107 : decode cL_isFinished 107 = .ok (.iconst 1, 1) := by decide +kernel
theorem dL_isFinished_108 : decode cL_isFinished 108 = .ok (.iastore, 1) := by decide +kernel
theorem dL_isFinished_109 : decode cL_isFinished 109 = .ok (.aload_n 0, 1) := by decide +kernel
theorem dL_isFinished_110 : decode cL_isFinished 110 = .ok (.bipush 7, 2) := by decide +kernel
theorem dL_isFinished_112 : decode cL_isFinished 112 = .ok (.iload 4, 2) := by decide +kernel
theorem dL_isFinished_114 : decode cL_isFinished 114 = .ok (.iconst 0, 1) := by decide +kernel
theorem dL_isFinished_115 : decode cL_isFinished 115 = .ok (.iconst 0, 1) := by decide +kernel
theorem dL_isFinished_116 : decode cL_isFinished 116 = .ok (.iconst 0, 1) := by decide +kernel
theorem dL_isFinished_117 : decode cL_isFinished 117 = .ok (.invokestatic 120, 3) := by decide +kernel
theorem dL_isFinished_120 : decode cL_isFinished 120 = .ok (.iload 5, 2) := by decide +kernel
theorem dL_isFinished_122 : decode cL_isFinished 122 = .ok (.if_icmp .ne 25, 3) := by decide +kernel
theorem dL_isFinished_125 : decode cL_isFinished 125 = .ok (.aload_n 0, 1) := by decide +kernel
theorem dL_isFinished_126 : decode cL_isFinished 126 = .ok (.iload 4, 2) := by decide +kernel
theorem dL_isFinished_128 : decode cL_isFinished 128 = .ok (.invokevirtual 61, 3) := by decide +kernel
theorem dL_isFinished_131 : decode cL_isFinished 131 = .ok (.ifCond .ne 16, 3) := by decide +kernel
theorem dL_isFinished_134 : decode cL_isFinished 134 = .ok (.aload_n 0, 1) := by decide +kernel
theorem dL_isFinished_135 : decode cL_isFinished 135 = .ok (.iload 4, 2) := by decide +kernel
theorem dL_isFinished_137 : decode cL_isFinished 137 = .ok (.invokevirtual 67, 3) := by decide +kernel
theorem dL_isFinished_140 : decode cL_isFinished 140 = .ok (.ifCond .ne 7, 3) := by decide +kernel
theorem dL_isFinished_143 : decode cL_isFinished 143 = .ok (.iconst 1, 1) := by decide +kernel
theorem dL_isFinished_144 : decode cL_isFinished 144 = .ok (.goto 4, 3) := by decide +kernel
theorem dL_isFinished_147 : decode cL_isFinished 147 = .ok (.iconst 0, 1) := by decide +kernel
theorem dL_isFinished_148 : decode cL_isFinished 148 = .ok (.ireturn, 1) := by decide +kernel
set_option maxRecDepth 20000 in
theorem ggL_isDisputed_L_does : GoodIn wsL_isDisputed wsL_does := goodIn_ca (goodIn_ca (goodIn_ca (goodIn_r _ [5, 6, 7, 8, 9, 10, 4, 11, 12, 13, 14, 15, 16, 17, 18, 19, 20, 21, 22, 23, 24, 25, 26, 27, 28, 29, 30, 31, 32, 33, 34, 35, 36, 37, 38, 39, 40, 41, 42, 43, 44, 45, 46, 47, 48, 49, 50, 51, 52, 53, 54, 55, 56, 57, 58, 59, 60, 61, 62, 63, 64, 65, 66, 67, 68, 69, 70, 71, 72, 73, 74, 75, 76, 77, 78, 79, 80, 81, 82, 83, 84, 85, 86, 87, 88, 89, 90, 91, 92, 93, 94, 95, 96, 97, 98, 99, 100, 101, 102, 103, 104, 105, 106, 107, 108, 109, 110, 111, 112, 113, 114, 115, 116, 117, 118, 119, 120, 121, 122, 123, 124, 125, 126, 127, 128, 129, 130, 131, 132, 133, 134, 135, 136, 137, 138, 139, 140, 141, 142, 143, 144, 145, 146, 147, 148, 149, 150, 151, 152, 153, 154, 155, 156, 157, 158, 159, 160, 161, 162, 163, 164, 165, 166, 167, 168, 169, 170, 171, 172, 173, 174, 175, 176, 177, 178, 179, 180, 181, 182, 183, 184, 185, 186, 187, 188, 189, 190, 191, 192, 193, 194, 195, 196, 197, 198, 199, 200, 201, 202, 203, 204, 205, 206, 207, 208, 209, 210, 211, 212, 213, 214, 215, 216, 217, 218, 219, 220, 221, 222, 223, 224, 225, 226, 227, 228, 229, 230, 231, 232, 233, 234, 235, 236, 237, 238, 239, 240, 241, 242, 243, 244, 245, 246, 247, 248, 249, 250, 251, 252, 253, 254, 255, 256, 257, 258, 259, 260, 261, 262, 263, 264, 265, 266, 267, 268, 269, 270, 271, 272, 273, 274, 275, 276, 277, 278, 279, 280, 281, 282, 283, 284, 285, 286, 287, 288, 289, 290, 291, 292, 293, 294, 295, 296, 297, 298, 299, 300, 301, 302, 303, 304, 305, 306, 307, 308, 309, 310, 311, 312, 313, 314, 315, 316, 317, 318, 319, 320, 321, 322, 323, 324, 345, 346, 347, 348, 349, 350, 351, 352, 353, 354, 355, 356, 357, 358, 359, 360, 361, 362, 363] (by decide +kernel) (by decide +kernel)) (goodIn_sub (fun _ h => List.mem_cons_of_mem _ (List.mem_append_left _ (List.mem_append_left _ (List.mem_append_right _ h)))) (by decide +kernel))) (goodIn_sub (fun _ h => List.mem_cons_of_mem _ (List.mem_append_left _ (List.mem_append_right _ h))) (by decide +kernel))) (goodIn_sub (fun _ h => List.mem_cons_of_mem _ (List.mem_append_right _ h)) (by decide +kernel))
set_option maxRecDepth 20000 in
theorem gL_isDisputed_L_does : GoodIn wsL_isDisputed (va_wsS RL 120 yL_does wsL_does) := goodIn_app (goodIn_of _ (by decide +kernel)) ggL_isDisputed_L_does
set_option maxRecDepth 20000 in
theorem ggL_isDisputed_X1_charge : GoodIn wsL_isDisputed wsX1_charge := goodIn_ca (goodIn_r _ [328, 149, 150, 151, 15, 152, 38, 39, 30, 50, 40, 41, 42, 43, 44, 45, 51, 52, 53, 54, 55, 56, 57, 58, 59, 60, 61, 62, 63, 64, 65, 66, 67, 153, 154, 155, 212, 213, 214, 33, 215, 86, 345, 346, 347, 348, 349, 361, 362, 363, 350, 351, 352, 353, 354, 355, 356, 357, 358, 359, 360] (by decide +kernel) (by decide +kernel)) (goodIn_sub (fun _ h => List.mem_cons_of_mem _ (List.mem_append_right _ h)) (by decide +kernel))
set_option maxRecDepth 20000 in
theorem gL_isDisputed_X1_charge : GoodIn wsL_isDisputed (wsV RL 64 RX1 yX1_charge wsX1_charge) := goodIn_app (goodIn_of _ (by decide +kernel)) ggL_isDisputed_X1_charge
set_option maxRecDepth 20000 in
theorem ggL_isDisputed_X1_house : GoodIn wsL_isDisputed wsX1_house := goodIn_r _ [332, 30, 50, 34, 40, 41, 42, 43, 44, 45, 51, 52, 53, 54, 55, 56, 57, 58, 59, 60, 61, 62, 63, 64, 65, 66, 67, 73, 74, 75, 33, 76, 77, 232, 233, 234, 235, 86, 333, 334, 335, 336, 87, 277, 278, 279, 15, 280, 281, 282, 283, 284, 285, 286, 287, 288, 289, 290, 291, 292, 72, 84, 293, 294, 295, 296, 297, 298, 299, 300, 262, 164, 165, 166, 301, 302, 303, 304, 305, 108, 109, 110, 306, 307, 308, 309, 310, 311, 312, 313, 314, 315, 316, 317, 195, 318, 319, 320, 321, 322, 323, 324, 345, 346, 347, 348, 349, 361, 362, 363, 350, 351, 352, 353, 354, 355, 356, 357, 358, 359, 360] (by decide +kernel) (by decide +kernel)
set_option maxRecDepth 20000 in
theorem gL_isDisputed_X1_house : GoodIn wsL_isDisputed (wsV RL 100 RX1 yX1_house wsX1_house) := goodIn_app (goodIn_of _ (by decide +kernel)) ggL_isDisputed_X1_house
set_option maxRecDepth 20000 in
theorem ggL_isDisputed_X1_spent : GoodIn wsL_isDisputed wsX1_spent := goodIn_ca (goodIn_r _ [340, 30, 50, 153, 154, 15, 155, 38, 39, 40, 41, 42, 43, 44, 45, 51, 52, 53, 54, 55, 56, 57, 58, 59, 60, 61, 62, 63, 64, 65, 66, 67, 73, 74, 75, 33, 76, 77, 212, 213, 214, 215, 86, 341, 342, 343, 344, 87, 345, 346, 347, 348, 349, 361, 362, 363, 350, 351, 352, 353, 354, 355, 356, 357, 358, 359, 360] (by decide +kernel) (by decide +kernel)) (goodIn_sub (fun _ h => List.mem_cons_of_mem _ (List.mem_append_right _ h)) (by decide +kernel))
set_option maxRecDepth 20000 in
theorem gL_isDisputed_X1_spent : GoodIn wsL_isDisputed (wsV RL 89 RX1 yX1_spent wsX1_spent) := goodIn_app (goodIn_of _ (by decide +kernel)) ggL_isDisputed_X1_spent
theorem dL_isDisputed_0 : decode cL_isDisputed 0 = .ok (.iload 5, 2) := by decide +kernel
theorem dL_isDisputed_2 : decode cL_isDisputed 2 = .ok (.aload 4, 2) := by decide +kernel
theorem dL_isDisputed_4 : decode cL_isDisputed 4 = .ok (.iconst 0, 1) := by decide +kernel
theorem dL_isDisputed_5 : decode cL_isDisputed 5 = .ok (.iaload, 1) := by decide +kernel
theorem dL_isDisputed_6 : decode cL_isDisputed 6 = .ok (.if_icmp .ge 10, 3) := by decide +kernel
theorem dL_isDisputed_9 : decode cL_isDisputed 9 = .ok (.iload 6, 2) := by decide +kernel
theorem dL_isDisputed_11 : decode cL_isDisputed 11 = .ok (.bipush 9, 2) := by decide +kernel
theorem dL_isDisputed_13 : decode cL_isDisputed 13 = .ok (.if_icmp .le 44, 3) := by decide +kernel
theorem dL_isDisputed_16 : decode cL_isDisputed 16 = .ok (.aload_n 0, 1) := by decide +kernel
theorem dL_isDisputed_17 : decode cL_isDisputed 17 = .ok (.bipush 8, 2) := by decide +kernel
theorem dL_isDisputed_19 : decode cL_isDisputed 19 = .ok (.iload 5, 2) := by decide +kernel
theorem dL_isDisputed_21 : decode cL_isDisputed 21 = .ok (.iload 6, 2) := by decide +kernel
theorem dL_isDisputed_23 : decode cL_isDisputed 23 = .ok (.iconst 0, 1) := by decide +kernel
theorem dL_isDisputed_24 : decode cL_isDisputed 24 = .ok (.iconst 0, 1) := by decide +kernel
theorem dL_isDisputed_25 : decode cL_isDisputed 25 = .ok (.invokestatic 120, 3) := by decide +kernel
theorem dL_isDisputed_28 : decode cL_isDisputed 28 = .ok (.bipush (-30), 2) := by decide +kernel
theorem dL_isDisputed_30 : decode cL_isDisputed 30 = .ok (.if_icmp .ne 25, 3) := by decide +kernel
theorem dL_isDisputed_33 : decode cL_isDisputed 33 = .ok (.aload_n 0, 1) := by decide +kernel
theorem dL_isDisputed_34 : decode cL_isDisputed 34 = .ok (.bipush 9, 2) := by decide +kernel
theorem dL_isDisputed_36 : decode cL_isDisputed 36 = .ok (.iload 5, 2) := by decide +kernel
theorem dL_isDisputed_38 : decode cL_isDisputed 38 = .ok (.iload 6, 2) := by decide +kernel
theorem dL_isDisputed_40 : decode cL_isDisputed 40 = .ok (.bipush 101, 2) := by decide +kernel
theorem dL_isDisputed_42 : decode cL_isDisputed 42 = .ok (.iconst 0, 1) := by decide +kernel
theorem dL_isDisputed_43 : decode cL_isDisputed 43 = .ok (.invokestatic 120, 3) := by decide +kernel
theorem dL_isDisputed_46 : decode cL_isDisputed 46 = .ok (.bipush (-30), 2) := by decide +kernel
theorem dL_isDisputed_48 : decode cL_isDisputed 48 = .ok (.if_icmp .ne 7, 3) := by decide +kernel
theorem dL_isDisputed_51 : decode cL_isDisputed 51 = .ok (.iconst 1, 1) := by decide +kernel
theorem dL_isDisputed_52 : decode cL_isDisputed 52 = .ok (.goto 4, 3) := by decide +kernel
theorem dL_isDisputed_55 : decode cL_isDisputed 55 = .ok (.iconst 0, 1) := by decide +kernel
theorem dL_isDisputed_56 : decode cL_isDisputed 56 = .ok (.ireturn, 1) := by decide +kernel
theorem dL_isDisputed_57 : decode cL_isDisputed 57 = .ok (.aload_n 0, 1) := by decide +kernel
theorem dL_isDisputed_58 : decode cL_isDisputed 58 = .ok (.iload 5, 2) := by decide +kernel
theorem dL_isDisputed_60 : decode cL_isDisputed 60 = .ok (.iload 6, 2) := by decide +kernel
theorem dL_isDisputed_62 : decode cL_isDisputed 62 = .ok (.invokevirtual 64, 3) := by decide +kernel
theorem dL_isDisputed_65 : decode cL_isDisputed 65 = .ok (.istore 9, 2) := by decide +kernel
theorem dL_isDisputed_67 : decode cL_isDisputed 67 = .ok (.aload_n 2, 1) := by decide +kernel
theorem dL_isDisputed_68 : decode cL_isDisputed 68 = .ok (.iload 5, 2) := by decide +kernel
theorem dL_isDisputed_70 : decode cL_isDisputed 70 = .ok (.iaload, 1) := by decide +kernel
theorem dL_isDisputed_71 : decode cL_isDisputed 71 = .ok (.iload 6, 2) := by decide +kernel
theorem dL_isDisputed_73 : decode cL_isDisputed 73 = .ok (.ishr, 1) := by decide +kernel
theorem dL_isDisputed_74 : decode cL_isDisputed 74 = .ok (.iconst 1, 1) := by decide +kernel
theorem dL_isDisputed_75 : decode cL_isDisputed 75 = .ok (.iand, 1) := by decide +kernel
theorem dL_isDisputed_76 : decode cL_isDisputed 76 = .ok (.iconst 1, 1) := by decide +kernel
theorem dL_isDisputed_77 : decode cL_isDisputed 77 = .ok (.if_icmp .ne 7, 3) := by decide +kernel
theorem dL_isDisputed_80 : decode cL_isDisputed 80 = .ok (.iconst 1, 1) := by decide +kernel
theorem dL_isDisputed_81 : decode cL_isDisputed 81 = .ok (.goto 4, 3) := by decide +kernel
theorem dL_isDisputed_84 : decode cL_isDisputed 84 = .ok (.iconst 0, 1) := by decide +kernel
theorem dL_isDisputed_85 : decode cL_isDisputed 85 = .ok (.istore 10, 2) := by decide +kernel
theorem dL_isDisputed_87 : decode cL_isDisputed 87 = .ok (.aload_n 2, 1) := by decide +kernel
theorem dL_isDisputed_88 : decode cL_isDisputed 88 = .ok (.iload 5, 2) := by decide +kernel
theorem dL_isDisputed_90 : decode cL_isDisputed 90 = .ok (.iaload, 1) := by decide +kernel
theorem dL_isDisputed_91 : decode cL_isDisputed 91 = .ok (.iload 6, 2) := by decide +kernel
theorem dL_isDisputed_93 : decode cL_isDisputed 93 = .ok (.bipush 10, 2) := by decide +kernel
theorem dL_isDisputed_95 : decode cL_isDisputed 95 = .ok (.iadd, 1) := by decide +kernel
theorem dL_isDisputed_96 : decode cL_isDisputed 96 = .ok (.ishr, 1) := by decide +kernel
theorem dL_isDisputed_97 : decode cL_isDisputed 97 = .ok (.iconst 1, 1) := by decide +kernel
theorem dL_isDisputed_98 : decode cL_isDisputed 98 = .ok (.iand, 1) := by decide +kernel
theorem dL_isDisputed_99 : decode cL_isDisputed 99 = .ok (.iconst 1, 1) := by decide +kernel
theorem dL_isDisputed_100 : decode cL_isDisputed 100 = .ok (.if_icmp .ne 7, 3) := by decide +kernel
theorem dL_isDisputed_103 : decode cL_isDisputed 103 = .ok (.iconst 1, 1) := by decide +kernel
theorem dL_isDisputed_104 : decode cL_isDisputed 104 = .ok (.goto 4, 3) := by decide +kernel
theorem dL_isDisputed_107 : decode cL_isDisputed 107 = .ok (.iconst 0, 1) := by decide +kernel
theorem dL_isDisputed_108 : decode cL_isDisputed 108 = .ok (.istore 11, 2) := by decide +kernel
theorem dL_isDisputed_110 : decode cL_isDisputed 110 = .ok (.iload 10, 2) := by decide +kernel
theorem dL_isDisputed_112 : decode cL_isDisputed 112 = .ok (.ifCond .eq 8, 3) := by decide +kernel
theorem dL_isDisputed_115 : decode cL_isDisputed 115 = .ok (.iload 11, 2) := by decide +kernel
theorem dL_isDisputed_117 : decode cL_isDisputed 117 = .ok (.ifCond .eq 119, 3) := by decide +kernel
theorem dL_isDisputed_120 : decode cL_isDisputed 120 = .ok (.aload_n 1, 1) := by decide +kernel
theorem dL_isDisputed_121 : decode cL_isDisputed 121 = .ok (.bipush 20, 2) := by decide +kernel
theorem dL_isDisputed_123 : decode cL_isDisputed 123 = .ok (.iload 5, 2) := by decide +kernel
theorem dL_isDisputed_125 : decode cL_isDisputed 125 = .ok (.iadd, 1) := by decide +kernel
theorem dL_isDisputed_126 : decode cL_isDisputed 126 = .ok (.iaload, 1) := by decide +kernel
theorem dL_isDisputed_127 : decode cL_isDisputed 127 = .ok (.iconst 1, 1) := by decide +kernel
theorem dL_isDisputed_128 : decode cL_isDisputed 128 = .ok (.if_icmp .ne 17, 3) := by decide +kernel
theorem dL_isDisputed_131 : decode cL_isDisputed 131 = .ok (.iload 9, 2) := by decide +kernel
theorem dL_isDisputed_133 : decode cL_isDisputed 133 = .ok (.ifCond .le 12, 3) := by decide +kernel
theorem dL_isDisputed_136 : decode cL_isDisputed 136 = .ok (.iload 11, 2) := by decide +kernel
theorem dL_isDisputed_138 : decode cL_isDisputed 138 = .ok (.ifCond .ne 7, 3) := by decide +kernel
theorem dL_isDisputed_141 : decode cL_isDisputed 141 = .ok (.iconst 1, 1) := by decide +kernel
theorem dL_isDisputed_142 : decode cL_isDisputed 142 = .ok (.goto 4, 3) := by decide +kernel
theorem dL_isDisputed_145 : decode cL_isDisputed 145 = .ok (.iconst 0, 1) := by decide +kernel
theorem dL_isDisputed_146 : decode cL_isDisputed 146 = .ok (.istore 12, 2) := by decide +kernel
theorem dL_isDisputed_148 : decode cL_isDisputed 148 = .ok (.aload_n 2, 1) := by decide +kernel
theorem dL_isDisputed_149 : decode cL_isDisputed 149 = .ok (.iload 5, 2) := by decide +kernel
theorem dL_isDisputed_151 : decode cL_isDisputed 151 = .ok (.dup2, 1) := by decide +kernel
theorem dL_isDisputed_152 : decode cL_isDisputed 152 = .ok (.iaload, 1) := by decide +kernel
theorem dL_isDisputed_153 : decode cL_isDisputed 153 = .ok (.iload 12, 2) := by decide +kernel
theorem dL_isDisputed_155 : decode cL_isDisputed 155 = .ok (.ifCond .eq 10, 3) := by decide +kernel
theorem dL_isDisputed_158 : decode cL_isDisputed 158 = .ok (.iconst 1, 1) := by decide +kernel
theorem dL_isDisputed_159 : decode cL_isDisputed 159 = .ok (.iload 6, 2) := by decide +kernel
theorem dL_isDisputed_161 : decode cL_isDisputed 161 = .ok (.ishl, 1) := by decide +kernel
theorem dL_isDisputed_162 : decode cL_isDisputed 162 = .ok (.goto 4, 3) := by decide +kernel
theorem dL_isDisputed_165 : decode cL_isDisputed 165 = .ok (.iconst 0, 1) := by decide +kernel
theorem dL_isDisputed_166 : decode cL_isDisputed 166 = .ok (.ior, 1) := by decide +kernel
theorem dL_isDisputed_167 : decode cL_isDisputed 167 = .ok (.iastore, 1) := by decide +kernel
theorem dL_isDisputed_168 : decode cL_isDisputed 168 = .ok (.aload 4, 2) := by decide +kernel
theorem dL_isDisputed_170 : decode cL_isDisputed 170 = .ok (.iconst 4, 1) := by decide +kernel
theorem dL_isDisputed_171 : decode cL_isDisputed 171 = .ok (.dup2, 1) := by decide +kernel
theorem dL_isDisputed_172 : decode cL_isDisputed 172 = .ok (.iaload, 1) := by decide +kernel
theorem dL_isDisputed_173 : decode cL_isDisputed 173 = .ok (.iload 12, 2) := by decide +kernel
theorem dL_isDisputed_175 : decode cL_isDisputed 175 = .ok (.ifCond .eq 7, 3) := by decide +kernel
theorem dL_isDisputed_178 : decode cL_isDisputed 178 = .ok (.iconst 1, 1) := by decide +kernel
theorem dL_isDisputed_179 : decode cL_isDisputed 179 = .ok (.goto 4, 3) := by decide +kernel
theorem dL_isDisputed_182 : decode cL_isDisputed 182 = .ok (.iconst 0, 1) := by decide +kernel
theorem dL_isDisputed_183 : decode cL_isDisputed 183 = .ok (.iadd, 1) := by decide +kernel
theorem dL_isDisputed_184 : decode cL_isDisputed 184 = .ok (.iastore, 1) := by decide +kernel
theorem dL_isDisputed_185 : decode cL_isDisputed 185 = .ok (.aload_n 0, 1) := by decide +kernel
theorem dL_isDisputed_186 : decode cL_isDisputed 186 = .ok (.bipush 9, 2) := by decide +kernel
theorem dL_isDisputed_188 : decode cL_isDisputed 188 = .ok (.iload 5, 2) := by decide +kernel
theorem dL_isDisputed_190 : decode cL_isDisputed 190 = .ok (.iload 6, 2) := by decide +kernel
theorem dL_isDisputed_192 : decode cL_isDisputed 192 = .ok (.bipush 50, 2) := by decide +kernel
theorem dL_isDisputed_194 : decode cL_isDisputed 194 = .ok (.iconst 0, 1) := by decide +kernel
theorem dL_isDisputed_195 : decode cL_isDisputed 195 = .ok (.invokestatic 120, 3) := by decide +kernel
theorem dL_isDisputed_198 : decode cL_isDisputed 198 = .ok (.bipush (-10), 2) := by decide +kernel
theorem dL_isDisputed_200 : decode cL_isDisputed 200 = .ok (.if_icmp .ne 34, 3) := by decide +kernel
theorem dL_isDisputed_203 : decode cL_isDisputed 203 = .ok (.aload_n 0, 1) := by decide +kernel
theorem dL_isDisputed_204 : decode cL_isDisputed 204 = .ok (.bipush 8, 2) := by decide +kernel
theorem dL_isDisputed_206 : decode cL_isDisputed 206 = .ok (.iload 5, 2) := by decide +kernel
theorem dL_isDisputed_208 : decode cL_isDisputed 208 = .ok (.iload 6, 2) := by decide +kernel
theorem dL_isDisputed_210 : decode cL_isDisputed 210 = .ok (.iconst 0, 1) := by decide +kernel
theorem dL_isDisputed_211 : decode cL_isDisputed 211 = .ok (.iconst 0, 1) := by decide +kernel
theorem dL_isDisputed_212 : decode cL_isDisputed 212 = .ok (.invokestatic 120, 3) := by decide +kernel
theorem dL_isDisputed_215 : decode cL_isDisputed 215 = .ok (.iload 12, 2) := by decide +kernel
theorem dL_isDisputed_217 : decode cL_isDisputed 217 = .ok (.ifCond .eq 8, 3) := by decide +kernel
theorem dL_isDisputed_220 : decode cL_isDisputed 220 = .ok (.iload 9, 2) := by decide +kernel
theorem dL_isDisputed_222 : decode cL_isDisputed 222 = .ok (.goto 5, 3) := by decide +kernel
theorem dL_isDisputed_225 : decode cL_isDisputed 225 = .ok (.bipush (-10), 2) := by decide +kernel
theorem dL_isDisputed_227 : decode cL_isDisputed 227 = .ok (.if_icmp .ne 7, 3) := by decide +kernel
theorem dL_isDisputed_230 : decode cL_isDisputed 230 = .ok (.iconst 1, 1) := by decide +kernel
theorem dL_isDisputed_231 : decode cL_isDisputed 231 = .ok (.goto 4, 3) := by decide +kernel
theorem dL_isDisputed_234 : decode cL_isDisputed 234 = .ok (.iconst 0, 1) := by decide +kernel
theorem dL_isDisputed_235 : decode cL_isDisputed 235 = .ok (.ireturn, 1) := by decide +kernel
theorem dL_isDisputed_236 : decode cL_isDisputed 236 = .ok (.aload_n 0, 1) := by decide +kernel
theorem dL_isDisputed_237 : decode cL_isDisputed 237 = .ok (.invokevirtual 100, 3) := by decide +kernel
theorem dL_isDisputed_240 : decode cL_isDisputed 240 = .ok (.istore 12, 2) := by decide +kernel
theorem dL_isDisputed_242 : decode cL_isDisputed 242 = .ok (.aload_n 0, 1) := by decide +kernel
theorem dL_isDisputed_243 : decode cL_isDisputed 243 = .ok (.iload 6, 2) := by decide +kernel
theorem dL_isDisputed_245 : decode cL_isDisputed 245 = .ok (.invokevirtual 89, 3) := by decide +kernel
theorem dL_isDisputed_248 : decode cL_isDisputed 248 = .ok (.istore 13, 2) := by decide +kernel
theorem dL_isDisputed_250 : decode cL_isDisputed 250 = .ok (.iload 7, 2) := by decide +kernel
theorem dL_isDisputed_252 : decode cL_isDisputed 252 = .ok (.bipush 100, 2) := by decide +kernel
theorem dL_isDisputed_254 : decode cL_isDisputed 254 = .ok (.if_icmp .le 45, 3) := by decide +kernel
theorem dL_isDisputed_257 : decode cL_isDisputed 257 = .ok (.aload_n 0, 1) := by decide +kernel
theorem dL_isDisputed_258 : decode cL_isDisputed 258 = .ok (.bipush 9, 2) := by decide +kernel
theorem dL_isDisputed_260 : decode cL_isDisputed 260 = .ok (.iload 5, 2) := by decide +kernel
theorem dL_isDisputed_262 : decode cL_isDisputed 262 = .ok (.iload 6, 2) := by decide +kernel
theorem dL_isDisputed_264 : decode cL_isDisputed 264 = .ok (.iload 7, 2) := by decide +kernel
theorem dL_isDisputed_266 : decode cL_isDisputed 266 = .ok (.iload 8, 2) := by decide +kernel
theorem dL_isDisputed_268 : decode cL_isDisputed 268 = .ok (.invokestatic 120, 3) := by decide +kernel
theorem dL_isDisputed_271 : decode cL_isDisputed 271 = .ok (.bipush (-20), 2) := by decide +kernel
theorem dL_isDisputed_273 : decode cL_isDisputed 273 = .ok (.if_icmp .ne 24, 3) := by decide +kernel
theorem dL_isDisputed_276 : decode cL_isDisputed 276 = .ok (.aload_n 0, 1) := by decide +kernel
theorem dL_isDisputed_277 : decode cL_isDisputed 277 = .ok (.bipush 8, 2) := by decide +kernel
theorem dL_isDisputed_279 : decode cL_isDisputed 279 = .ok (.iload 5, 2) := by decide +kernel
theorem dL_isDisputed_281 : decode cL_isDisputed 281 = .ok (.iload 6, 2) := by decide +kernel
theorem dL_isDisputed_283 : decode cL_isDisputed 283 = .ok (.iconst 0, 1) := by decide +kernel
theorem dL_isDisputed_284 : decode cL_isDisputed 284 = .ok (.iconst 0, 1) := by decide +kernel
theorem dL_isDisputed_285 : decode cL_isDisputed 285 = .ok (.invokestatic 120, 3) := by decide +kernel
theorem dL_isDisputed_288 : decode cL_isDisputed 288 = .ok (.bipush (-10), 2) := by decide +kernel
theorem dL_isDisputed_290 : decode cL_isDisputed 290 = .ok (.if_icmp .ne 7, 3) := by decide +kernel
theorem dL_isDisputed_293 : decode cL_isDisputed 293 = .ok (.iconst 1, 1) := by decide +kernel
theorem dL_isDisputed_294 : decode cL_isDisputed 294 = .ok (.goto 4, 3) := by decide +kernel
theorem dL_isDisputed_297 : decode cL_isDisputed 297 = .ok (.iconst 0, 1) := by decide +kernel
theorem dL_isDisputed_298 : decode cL_isDisputed 298 = .ok (.ireturn, 1) := by decide +kernel
theorem dL_isDisputed_299 : decode cL_isDisputed 299 = .ok (.aload_n 0, 1) := by decide +kernel
theorem dL_isDisputed_300 : decode cL_isDisputed 300 = .ok (.bipush 9, 2) := by decide +kernel
theorem dL_isDisputed_302 : decode cL_isDisputed 302 = .ok (.iload 5, 2) := by decide +kernel
theorem dL_isDisputed_304 : decode cL_isDisputed 304 = .ok (.iload 6, 2) := by decide +kernel
theorem dL_isDisputed_306 : decode cL_isDisputed 306 = .ok (.iload 7, 2) := by decide +kernel
theorem dL_isDisputed_308 : decode cL_isDisputed 308 = .ok (.iload 8, 2) := by decide +kernel
theorem dL_isDisputed_310 : decode cL_isDisputed 310 = .ok (.invokestatic 120, 3) := by decide +kernel
theorem dL_isDisputed_313 : decode cL_isDisputed 313 = .ok (.istore 14, 2) := by decide +kernel
theorem dL_isDisputed_315 : decode cL_isDisputed 315 = .ok (.aload_n 2, 1) := by decide +kernel
theorem dL_isDisputed_316 : decode cL_isDisputed 316 = .ok (.iload 5, 2) := by decide +kernel
theorem dL_isDisputed_318 : decode cL_isDisputed 318 = .ok (.dup2, 1) := by decide +kernel
theorem dL_isDisputed_319 : decode cL_isDisputed 319 = .ok (.iaload, 1) := by decide +kernel
theorem dL_isDisputed_320 : decode cL_isDisputed 320 = .ok (.iconst 1, 1) := by decide +kernel
theorem dL_isDisputed_321 : decode cL_isDisputed 321 = .ok (.iload 6, 2) := by decide +kernel
theorem dL_isDisputed_323 : decode cL_isDisputed 323 = .ok (.bipush 10, 2) := by decide +kernel
theorem dL_isDisputed_325 : decode cL_isDisputed 325 = .ok (.iadd, 1) := by decide +kernel
theorem dL_isDisputed_326 : decode cL_isDisputed 326 = .ok (.ishl, 1) := by decide +kernel
theorem dL_isDisputed_327 : decode cL_isDisputed 327 = .ok (.ior, 1) := by decide +kernel
theorem dL_isDisputed_328 : decode cL_isDisputed 328 = .ok (.iastore, 1) := by decide +kernel
theorem dL_isDisputed_329 : decode cL_isDisputed 329 = .ok (.aload_n 3, 1) := by decide +kernel
theorem dL_isDisputed_330 : decode cL_isDisputed 330 = .ok (.iload 6, 2) := by decide +kernel
theorem dL_isDisputed_332 : decode cL_isDisputed 332 = .ok (.dup2, 1) := by decide +kernel
theorem dL_isDisputed_333 : decode cL_isDisputed 333 = .ok (.iaload, 1) := by decide +kernel
theorem dL_isDisputed_334 : decode cL_isDisputed 334 = .ok (.iload 14, 2) := by decide +kernel
theorem dL_isDisputed_336 : decode cL_isDisputed 336 = .ok (.iadd, 1) := by decide +kernel
theorem dL_isDisputed_337 : decode cL_isDisputed 337 = .ok (.iastore, 1) := by decide +kernel
theorem dL_isDisputed_338 : decode cL_isDisputed 338 = .ok (.aload 4, 2) := by decide +kernel
theorem dL_isDisputed_340 : decode cL_isDisputed 340 = .ok (.iconst 4, 1) := by decide +kernel
theorem dL_isDisputed_341 : decode cL_isDisputed 341 = .ok (.dup2, 1) := by decide +kernel
theorem dL_isDisputed_342 : decode cL_isDisputed 342 = .ok (.iaload, 1) := by decide +kernel
theorem dL_isDisputed_343 : decode cL_isDisputed 343 = .ok (.iconst 1, 1) := by decide +kernel
theorem dL_isDisputed_344 : decode cL_isDisputed 344 = .ok (.isub, 1) := by decide +kernel
theorem dL_isDisputed_345 : decode cL_isDisputed 345 = .ok (.iastore, 1) := by decide +kernel
theorem dL_isDisputed_346 : decode cL_isDisputed 346 = .ok (.iload 14, 2) := by decide +kernel
theorem dL_isDisputed_348 : decode cL_isDisputed 348 = .ok (.ifCond .lt 78, 3) := by decide +kernel
theorem dL_isDisputed_351 : decode cL_isDisputed 351 = .ok (.iload 14, 2) := by decide +kernel
theorem dL_isDisputed_353 : decode cL_isDisputed 353 = .ok (.iload 9, 2) := by decide +kernel
theorem dL_isDisputed_355 : decode cL_isDisputed 355 = .ok (.if_icmp .gt 71, 3) := by decide +kernel
theorem dL_isDisputed_358 : decode cL_isDisputed 358 = .ok (.iload 7, 2) := by decide +kernel
theorem dL_isDisputed_360 : decode cL_isDisputed 360 = .ok (.bipush 100, 2) := by decide +kernel
theorem dL_isDisputed_362 : decode cL_isDisputed 362 = .ok (.if_icmp .lt 10, 3) := by decide +kernel
theorem dL_isDisputed_365 : decode cL_isDisputed 365 = .ok (.iload 14, 2) := by decide +kernel
theorem dL_isDisputed_367 : decode cL_isDisputed 367 = .ok (.iload 9, 2) := by decide +kernel
theorem dL_isDisputed_369 : decode cL_isDisputed 369 = .ok (.if_icmp .ne 57, 3) := by decide +kernel
theorem dL_isDisputed_372 : decode cL_isDisputed 372 = .ok (.iload 7, 2) := by decide +kernel
theorem dL_isDisputed_374 : decode cL_isDisputed 374 = .ok (.ifCond .gt 8, 3) := by decide +kernel
theorem dL_isDisputed_377 : decode cL_isDisputed 377 = .ok (.iload 14, 2) := by decide +kernel
theorem dL_isDisputed_379 : decode cL_isDisputed 379 = .ok (.ifCond .ne 47, 3) := by decide +kernel
theorem dL_isDisputed_382 : decode cL_isDisputed 382 = .ok (.iload 14, 2) := by decide +kernel
theorem dL_isDisputed_384 : decode cL_isDisputed 384 = .ok (.i2l, 1) := by decide +kernel
theorem dL_isDisputed_385 : decode cL_isDisputed 385 = .ok (.ldc2_w 125, 3) := by decide +kernel
theorem dL_isDisputed_388 : decode cL_isDisputed 388 = .ok (.lmul, 1) := by decide +kernel
theorem dL_isDisputed_389 : decode cL_isDisputed 389 = .ok (.iload 9, 2) := by decide +kernel
theorem dL_isDisputed_391 : decode cL_isDisputed 391 = .ok (.i2l, 1) := by decide +kernel
theorem dL_isDisputed_392 : decode cL_isDisputed 392 = .ok (.iload 7, 2) := by decide +kernel
theorem dL_isDisputed_394 : decode cL_isDisputed 394 = .ok (.i2l, 1) := by decide +kernel
theorem dL_isDisputed_395 : decode cL_isDisputed 395 = .ok (.lmul, 1) := by decide +kernel
theorem dL_isDisputed_396 : decode cL_isDisputed 396 = .ok (.lcmp, 1) := by decide +kernel
theorem dL_isDisputed_397 : decode cL_isDisputed 397 = .ok (.ifCond .gt 29, 3) := by decide +kernel
theorem dL_isDisputed_400 : decode cL_isDisputed 400 = .ok (.iload 14, 2) := by decide +kernel
theorem dL_isDisputed_402 : decode cL_isDisputed 402 = .ok (.i2l, 1) := by decide +kernel
theorem dL_isDisputed_403 : decode cL_isDisputed 403 = .ok (.ldc2_w 125, 3) := by decide +kernel
theorem dL_isDisputed_406 : decode cL_isDisputed 406 = .ok (.lmul, 1) := by decide +kernel
theorem dL_isDisputed_407 : decode cL_isDisputed 407 = .ok (.iload 9, 2) := by decide +kernel
theorem dL_isDisputed_409 : decode cL_isDisputed 409 = .ok (.i2l, 1) := by decide +kernel
theorem dL_isDisputed_410 : decode cL_isDisputed 410 = .ok (.iload 7, 2) := by decide +kernel
theorem dL_isDisputed_412 : decode cL_isDisputed 412 = .ok (.i2l, 1) := by decide +kernel
theorem dL_isDisputed_413 : decode cL_isDisputed 413 = .ok (.lmul, 1) := by decide +kernel
theorem dL_isDisputed_414 : decode cL_isDisputed 414 = .ok (.ldc2_w 125, 3) := by decide +kernel
theorem dL_isDisputed_417 : decode cL_isDisputed 417 = .ok (.lsub, 1) := by decide +kernel
theorem dL_isDisputed_418 : decode cL_isDisputed 418 = .ok (.lcmp, 1) := by decide +kernel
theorem dL_isDisputed_419 : decode cL_isDisputed 419 = .ok (.ifCond .le 7, 3) := by decide +kernel
theorem dL_isDisputed_422 : decode cL_isDisputed 422 = .ok (.iconst 1, 1) := by decide +kernel
theorem dL_isDisputed_423 : decode cL_isDisputed 423 = .ok (.goto 4, 3) := by decide +kernel
theorem dL_isDisputed_426 : decode cL_isDisputed 426 = .ok (.iconst 0, 1) := by decide +kernel
theorem dL_isDisputed_427 : decode cL_isDisputed 427 = .ok (.istore 15, 2) := by decide +kernel
theorem dL_isDisputed_429 : decode cL_isDisputed 429 = .ok (.iload 15, 2) := by decide +kernel
theorem dL_isDisputed_431 : decode cL_isDisputed 431 = .ok (.ifCond .eq 68, 3) := by decide +kernel
theorem dL_isDisputed_434 : decode cL_isDisputed 434 = .ok (.aload_n 0, 1) := by decide +kernel
theorem dL_isDisputed_435 : decode cL_isDisputed 435 = .ok (.iload 6, 2) := by decide +kernel
theorem dL_isDisputed_437 : decode cL_isDisputed 437 = .ok (.invokevirtual 89, 3) := by decide +kernel
theorem dL_isDisputed_440 : decode cL_isDisputed 440 = .ok (.iload 13, 2) := by decide +kernel
theorem dL_isDisputed_442 : decode cL_isDisputed 442 = .ok (.iload 14, 2) := by decide +kernel
theorem dL_isDisputed_444 : decode cL_isDisputed 444 = .ok (.isub, 1) := by decide +kernel
theorem dL_isDisputed_445 : decode cL_isDisputed 445 = .ok (.if_icmp .ne 54, 3) := by decide +kernel
theorem dL_isDisputed_448 : decode cL_isDisputed 448 = .ok (.iload 8, 2) := by decide +kernel
theorem dL_isDisputed_450 : decode cL_isDisputed 450 = .ok (.ifCond .ne 15, 3) := by decide +kernel
theorem dL_isDisputed_453 : decode cL_isDisputed 453 = .ok (.aload_n 0, 1) := by decide +kernel
theorem dL_isDisputed_454 : decode cL_isDisputed 454 = .ok (.invokevirtual 100, 3) := by decide +kernel
theorem dL_isDisputed_457 : decode cL_isDisputed 457 = .ok (.iload 12, 2) := by decide +kernel
theorem dL_isDisputed_459 : decode cL_isDisputed 459 = .ok (.iload 14, 2) := by decide +kernel
theorem dL_isDisputed_461 : decode cL_isDisputed 461 = .ok (.isub, 1) := by decide +kernel
theorem dL_isDisputed_462 : decode cL_isDisputed 462 = .ok (.if_icmp .ne 37, 3) := by decide +kernel
theorem dL_isDisputed_465 : decode cL_isDisputed 465 = .ok (.aload_n 0, 1) := by decide +kernel
theorem dL_isDisputed_466 : decode cL_isDisputed 466 = .ok (.iload 5, 2) := by decide +kernel
theorem dL_isDisputed_468 : decode cL_isDisputed 468 = .ok (.iload 6, 2) := by decide +kernel
theorem dL_isDisputed_470 : decode cL_isDisputed 470 = .ok (.invokevirtual 64, 3) := by decide +kernel
theorem dL_isDisputed_473 : decode cL_isDisputed 473 = .ok (.iload 9, 2) := by decide +kernel
theorem dL_isDisputed_475 : decode cL_isDisputed 475 = .ok (.if_icmp .ne 24, 3) := by decide +kernel
theorem dL_isDisputed_478 : decode cL_isDisputed 478 = .ok (.aload_n 0, 1) := by decide +kernel
theorem dL_isDisputed_479 : decode cL_isDisputed 479 = .ok (.bipush 9, 2) := by decide +kernel
theorem dL_isDisputed_481 : decode cL_isDisputed 481 = .ok (.iload 5, 2) := by decide +kernel
theorem dL_isDisputed_483 : decode cL_isDisputed 483 = .ok (.iload 6, 2) := by decide +kernel
theorem dL_isDisputed_485 : decode cL_isDisputed 485 = .ok (.iconst 0, 1) := by decide +kernel
theorem dL_isDisputed_486 : decode cL_isDisputed 486 = .ok (.iconst 0, 1) := by decide +kernel
theorem dL_isDisputed_487 : decode cL_isDisputed 487 = .ok (.invokestatic 120, 3) := by decide +kernel
theorem dL_isDisputed_490 : decode cL_isDisputed 490 = .ok (.bipush (-10), 2) := by decide +kernel
theorem dL_isDisputed_492 : decode cL_isDisputed 492 = .ok (.if_icmp .ne 7, 3) := by decide +kernel
theorem dL_isDisputed_495 : decode cL_isDisputed 495 = .ok (.iconst 1, 1) := by decide +kernel
theorem dL_isDisputed_496 : decode cL_isDisputed 496 = .ok (.goto 4, 3) := by decide +kernel
theorem dL_isDisputed_499 : decode cL_isDisputed 499 = .ok (.iconst 0, 1) := by decide +kernel
theorem dL_isDisputed_500 : decode cL_isDisputed 500 = .ok (.ireturn, 1) := by decide +kernel
set_option maxRecDepth 20000 in
theorem ggL_isClosed_X1_house : GoodIn wsL_isClosed wsX1_house := goodIn_r _ [5, 6, 7, 8, 9, 10, 11, 12, 13, 14, 15, 16, 17, 18, 19, 20, 21, 22, 23, 24, 25, 26, 27, 28, 29, 30, 31, 32, 33, 34, 35, 36, 37, 38, 39, 40, 41, 42, 43, 44, 45, 46, 47, 48, 49, 50, 4, 51, 52, 53, 54, 55, 56, 57, 58, 59, 60, 61, 62, 63, 64, 65, 66, 67, 68, 69, 70, 71, 72, 73, 74, 75, 76, 77, 78, 79, 80, 81, 82, 83, 84, 85, 86, 87, 88, 89, 90, 91, 92, 93, 94, 95, 96, 97, 98, 99, 100, 101, 102, 103, 104, 105, 340, 341, 342, 343, 344, 345, 346, 347, 348, 349, 350, 351, 352, 353, 354, 355, 356, 357, 358] (by decide +kernel) (by decide +kernel)
set_option maxRecDepth 20000 in
theorem gL_isClosed_X1_house : GoodIn wsL_isClosed (wsV RL 100 RX1 yX1_house wsX1_house) := goodIn_app (goodIn_of _ (by decide +kernel)) ggL_isClosed_X1_house
set_option maxRecDepth 20000 in
theorem ggL_isClosed_X1_balance : GoodIn wsL_isClosed wsX1_balance := goodIn_ca (goodIn_r _ [109, 110, 111, 4, 112, 113, 114, 115, 116, 117, 118, 8, 119, 48, 49, 50, 51, 52, 53, 54, 55, 56, 57, 58, 59, 6, 7, 9, 10, 11, 12, 13, 14, 15, 16, 17, 18, 19, 20, 21, 22, 23, 24, 25, 26, 27, 28, 29, 30, 31, 60, 61, 62, 35, 63, 37, 64, 65, 66, 67, 68, 69, 70, 71, 72, 73, 42, 74, 47, 75, 76, 77, 78, 79, 80, 81, 82, 83, 84, 85, 86, 87, 88, 89, 90, 91, 92, 93, 94, 95, 96, 97, 98, 99, 100, 101, 102, 103, 104, 105, 340, 341, 342, 343, 344, 345, 346, 347, 348, 349, 350, 351, 352, 353, 354, 355, 356, 357, 358] (by decide +kernel) (by decide +kernel)) (goodIn_sub (fun _ h => List.mem_cons_of_mem _ (List.mem_append_left _ (List.mem_append_left _ (List.mem_append_right _ h)))) (by decide +kernel))
set_option maxRecDepth 20000 in
theorem gL_isClosed_X1_balance : GoodIn wsL_isClosed (wsV RL 83 RX1 yX1_balance wsX1_balance) := goodIn_app (goodIn_of _ (by decide +kernel)) ggL_isClosed_X1_balance
set_option maxRecDepth 20000 in
theorem ggL_isClosed_X1_pay : GoodIn wsL_isClosed wsX1_pay := goodIn_ca (goodIn_ca (goodIn_r _ [123, 8, 110, 111, 4, 112, 113, 114, 124, 125, 126, 127, 128, 52, 53, 54, 55, 56, 57, 58, 59, 6, 7, 9, 10, 11, 12, 13, 14, 15, 16, 17, 18, 19, 20, 21, 22, 23, 24, 25, 26, 27, 28, 29, 30, 31, 60, 61, 62, 35, 63, 37, 64, 65, 66, 67, 68, 69, 70, 71, 72, 73, 42, 74, 47, 75, 76, 77, 78, 79, 80, 81, 82, 83, 84, 85, 86, 87, 88, 89, 90, 91, 92, 93, 94, 95, 96, 97, 98, 99, 100, 101, 102, 103, 104, 105, 340, 341, 342, 343, 344, 345, 346, 347, 348, 349, 350, 351, 352, 353, 354, 355, 356, 357, 358] (by decide +kernel) (by decide +kernel)) (goodIn_sub (fun _ h => List.mem_cons_of_mem _ (List.mem_append_left _ (List.mem_append_left _ (List.mem_append_right _ h)))) (by decide +kernel))) (goodIn_sub (fun _ h => List.mem_cons_of_mem _ (List.mem_append_left _ (List.mem_append_right _ h))) (by decide +kernel))
set_option maxRecDepth 20000 in
theorem gL_isClosed_X1_pay : GoodIn wsL_isClosed (wsV RL 80 RX1 yX1_pay wsX1_pay) := goodIn_app (goodIn_of _ (by decide +kernel)) ggL_isClosed_X1_pay
set_option maxRecDepth 20000 in
theorem ggL_isClosed_L_does : GoodIn wsL_isClosed wsL_does := goodIn_ca (goodIn_ca (goodIn_ca (goodIn_r _ [132, 133, 134, 135, 136, 137, 131, 138, 139, 140, 141, 4, 142, 143, 144, 124, 125, 126, 127, 128, 145, 146, 147, 148, 149, 150, 6, 151, 152, 35, 8, 110, 111, 112, 113, 114, 9, 10, 11, 12, 13, 14, 153, 154, 155, 156, 7, 15, 16, 17, 18, 19, 20, 21, 22, 23, 24, 25, 26, 27, 28, 29, 30, 31, 157, 158, 159, 160, 64, 32, 33, 34, 36, 37, 161, 162, 163, 164, 165, 166, 65, 167, 42, 47, 168, 169, 170, 171, 172, 173, 174, 175, 176, 177, 178, 179, 180, 181, 182, 183, 184, 185, 186, 187, 83, 84, 85, 188, 189, 190, 191, 192, 193, 194, 195, 196, 197, 198, 199, 200, 201, 202, 203, 204, 205, 206, 207, 208, 209, 210, 211, 212, 213, 214, 215, 216, 217, 218, 219, 220, 221, 222, 223, 224, 225, 226, 227, 228, 229, 230, 231, 232, 233, 234, 235, 236, 237, 238, 239, 240, 75, 76, 77, 241, 242, 243, 244, 245, 246, 247, 248, 249, 250, 251, 252, 253, 254, 255, 256, 257, 258, 259, 260, 261, 262, 263, 264, 265, 266, 267, 268, 98, 269, 270, 271, 272, 273, 274, 275, 276, 277, 278, 279, 280, 281, 282, 283, 284, 285, 286, 287, 288, 289, 290, 291, 292, 293, 294, 295, 296, 297, 298, 299, 300, 301, 302, 303, 304, 38, 39, 40, 41, 305, 306, 307, 308, 309, 310, 311, 312, 313, 314, 315, 316, 317, 318, 319, 320, 321, 322, 323, 324, 325, 326, 327, 328, 329, 330, 74, 331, 332, 333, 334, 335, 119, 336, 337, 338, 339, 115, 116, 117, 118, 48, 49, 50, 51, 52, 53, 54, 55, 56, 57, 58, 59, 60, 61, 62, 63, 66, 67, 68, 69, 70, 71, 72, 73, 78, 79, 80, 81, 82, 86, 87, 88, 89, 90, 91, 92, 93, 94, 95, 96, 97, 99, 100, 101, 102, 103, 104, 105, 340, 341, 342, 343, 344, 348, 349, 350, 351, 352, 353, 354, 355, 356, 357, 358, 345, 346, 347] (by decide +kernel) (by decide +kernel)) (goodIn_sub (fun _ h => List.mem_cons_of_mem _ (List.mem_append_left _ (List.mem_append_right _ h))) (by decide +kernel))) (goodIn_sub (fun _ h => List.mem_cons_of_mem _ (List.mem_append_right _ h)) (by decide +kernel))) (goodIn_sub (fun _ h => List.mem_cons_of_mem _ (List.mem_append_left _ (List.mem_append_left _ (List.mem_append_right _ h)))) (by decide +kernel))
set_option maxRecDepth 20000 in
theorem gL_isClosed_L_does : GoodIn wsL_isClosed (va_wsS RL 120 yL_does wsL_does) := goodIn_app (goodIn_of _ (by decide +kernel)) ggL_isClosed_L_does
theorem dL_isClosed_0 : decode cL_isClosed 0 = .ok (.aload_n 2, 1) := by decide +kernel
theorem dL_isClosed_1 : decode cL_isClosed 1 = .ok (.iconst 1, 1) := by decide +kernel
theorem dL_isClosed_2 : decode cL_isClosed 2 = .ok (.iaload, 1) := by decide +kernel
theorem dL_isClosed_3 : decode cL_isClosed 3 = .ok (.bipush 20, 2) := by decide +kernel
theorem dL_isClosed_5 : decode cL_isClosed 5 = .ok (.if_icmp .ge 7, 3) := by decide +kernel
theorem dL_isClosed_8 : decode cL_isClosed 8 = .ok (.iconst 1, 1) := by decide +kernel
theorem dL_isClosed_9 : decode cL_isClosed 9 = .ok (.goto 4, 3) := by decide +kernel
theorem dL_isClosed_12 : decode cL_isClosed 12 = .ok (.iconst 0, 1) := by decide +kernel
theorem dL_isClosed_13 : decode cL_isClosed 13 = .ok (.istore_n 3, 1) := by decide +kernel
theorem dL_isClosed_14 : decode cL_isClosed 14 = .ok (.iconst 0, 1) := by decide +kernel
theorem dL_isClosed_15 : decode cL_isClosed 15 = .ok (.istore 4, 2) := by decide +kernel
theorem dL_isClosed_17 : decode cL_isClosed 17 = .ok (.iload 4, 2) := by decide +kernel
theorem dL_isClosed_19 : decode cL_isClosed 19 = .ok (.aload_n 2, 1) := by decide +kernel
theorem dL_isClosed_20 : decode cL_isClosed 20 = .ok (.iconst 0, 1) := by decide +kernel
theorem dL_isClosed_21 : decode cL_isClosed 21 = .ok (.iaload, 1) := by decide +kernel
theorem dL_isClosed_22 : decode cL_isClosed 22 = .ok (.if_icmp .ge 30, 3) := by decide +kernel
theorem dL_isClosed_25 : decode cL_isClosed 25 = .ok (.iload_n 3, 1) := by decide +kernel
theorem dL_isClosed_26 : decode cL_isClosed 26 = .ok (.ifCond .eq 18, 3) := by decide +kernel
theorem dL_isClosed_29 : decode cL_isClosed 29 = .ok (.aload_n 1, 1) := by decide +kernel
theorem dL_isClosed_30 : decode cL_isClosed 30 = .ok (.bipush 20, 2) := by decide +kernel
theorem dL_isClosed_32 : decode cL_isClosed 32 = .ok (.iload 4, 2) := by decide +kernel
theorem dL_isClosed_34 : decode cL_isClosed 34 = .ok (.iadd, 1) := by decide +kernel
theorem dL_isClosed_35 : decode cL_isClosed 35 = .ok (.iaload, 1) := by decide +kernel
theorem dL_isClosed_36 : decode cL_isClosed 36 = .ok (.iconst 1, 1) := by decide +kernel
theorem dL_isClosed_37 : decode cL_isClosed 37 = .ok (.if_icmp .ne 7, 3) := by decide +kernel
theorem dL_isClosed_40 : decode cL_isClosed 40 = .ok (.iconst 1, 1) := by decide +kernel
theorem dL_isClosed_41 : decode cL_isClosed 41 = .ok (.goto 4, 3) := by decide +kernel
theorem dL_isClosed_44 : decode cL_isClosed 44 = .ok (.iconst 0, 1) := by decide +kernel
theorem dL_isClosed_45 : decode cL_isClosed 45 = .ok (.istore_n 3, 1) := by decide +kernel
theorem dL_isClosed_46 : decode cL_isClosed 46 = .ok (.iinc 4 1, 3) := by decide +kernel
theorem dL_isClosed_49 : decode cL_isClosed 49 = .ok (.goto (-32), 3) := by decide +kernel
theorem dL_isClosed_52 : decode cL_isClosed 52 = .ok (.iconst 0, 1) := by decide +kernel
theorem dL_isClosed_53 : decode cL_isClosed 53 = .ok (.istore 4, 2) := by decide +kernel
theorem dL_isClosed_55 : decode cL_isClosed 55 = .ok (.aload_n 0, 1) := by decide +kernel
theorem dL_isClosed_56 : decode cL_isClosed 56 = .ok (.invokevirtual 100, 3) := by decide +kernel
theorem dL_isClosed_59 : decode cL_isClosed 59 = .ok (.istore 5, 2) := by decide +kernel
theorem dL_isClosed_61 : decode cL_isClosed 61 = .ok (.iconst 0, 1) := by decide +kernel
theorem dL_isClosed_62 : decode cL_isClosed 62 = .ok (.istore 6, 2) := by decide +kernel
theorem dL_isClosed_64 : decode cL_isClosed 64 = .ok (.iload 6, 2) := by decide +kernel
theorem dL_isClosed_66 : decode cL_isClosed 66 = .ok (.iconst 5, 1) := by decide +kernel
theorem dL_isClosed_67 : decode cL_isClosed 67 = .ok (.if_icmp .ge 43, 3) := by decide +kernel
theorem dL_isClosed_70 : decode cL_isClosed 70 = .ok (.aload_n 0, 1) := by decide +kernel
theorem dL_isClosed_71 : decode cL_isClosed 71 = .ok (.iload 6, 2) := by decide +kernel
theorem dL_isClosed_73 : decode cL_isClosed 73 = .ok (.invokevirtual 83, 3) := by decide +kernel
theorem dL_isClosed_76 : decode cL_isClosed 76 = .ok (.aload_n 0, 1) := by decide +kernel
theorem dL_isClosed_77 : decode cL_isClosed 77 = .ok (.iload 6, 2) := by decide +kernel
theorem dL_isClosed_79 : decode cL_isClosed 79 = .ok (.aload_n 2, 1) := by decide +kernel
theorem dL_isClosed_80 : decode cL_isClosed 80 = .ok (.iconst 1, 1) := by decide +kernel
theorem dL_isClosed_81 : decode cL_isClosed 81 = .ok (.iaload, 1) := by decide +kernel
theorem dL_isClosed_82 : decode cL_isClosed 82 = .ok (.invokevirtual 80, 3) := by decide +kernel
theorem dL_isClosed_85 : decode cL_isClosed 85 = .ok (.iadd, 1) := by decide +kernel
theorem dL_isClosed_86 : decode cL_isClosed 86 = .ok (.istore 7, 2) := by decide +kernel
theorem dL_isClosed_88 : decode cL_isClosed 88 = .ok (.iload 4, 2) := by decide +kernel
theorem dL_isClosed_90 : decode cL_isClosed 90 = .ok (.iload 7, 2) := by decide +kernel
theorem dL_isClosed_92 : decode cL_isClosed 92 = .ok (.ifCond .le 8, 3) := by decide +kernel
theorem dL_isClosed_95 : decode cL_isClosed 95 = .ok (.iload 7, 2) := by decide +kernel
theorem dL_isClosed_97 : decode cL_isClosed 97 = .ok (.goto 4, 3) := by decide +kernel
theorem dL_isClosed_100 : decode cL_isClosed 100 = .ok (.iconst 0, 1) := by decide +kernel
theorem dL_isClosed_101 : decode cL_isClosed 101 = .ok (.iadd, 1) := by decide +kernel
theorem dL_isClosed_102 : decode cL_isClosed 102 = .ok (.istore 4, 2) := by decide +kernel
theorem dL_isClosed_104 : decode cL_isClosed 104 = .ok (.iinc 6 1, 3) := by decide +kernel
theorem dL_isClosed_107 : decode cL_isClosed 107 = .ok (.goto (-43), 3) := by decide +kernel
theorem dL_isClosed_110 : decode cL_isClosed 110 = .ok (.aload_n 0, 1) := by decide +kernel
theorem dL_isClosed_111 : decode cL_isClosed 111 = .ok (.bipush 10, 2) := by decide +kernel
theorem dL_isClosed_113 : decode cL_isClosed 113 = .ok (.iconst 0, 1) := by decide +kernel
theorem dL_isClosed_114 : decode cL_isClosed 114 = .ok (.iconst 0, 1) := by decide +kernel
theorem dL_isClosed_115 : decode cL_isClosed 115 = .ok (.iconst 0, 1) := by decide +kernel
theorem dL_isClosed_116 : decode cL_isClosed 116 = .ok (.iconst 0, 1) := by decide +kernel
theorem dL_isClosed_117 : decode cL_isClosed 117 = .ok (.invokestatic 120, 3) := by decide +kernel
theorem dL_isClosed_120 : decode cL_isClosed 120 = .ok (.istore 6, 2) := by decide +kernel
theorem dL_isClosed_122 : decode cL_isClosed 122 = .ok (.iload_n 3, 1) := by decide +kernel
theorem dL_isClosed_123 : decode cL_isClosed 123 = .ok (.ifCond .ne 16, 3) := by decide +kernel
theorem dL_isClosed_126 : decode cL_isClosed 126 = .ok (.iload 6, 2) := by decide +kernel
theorem dL_isClosed_128 : decode cL_isClosed 128 = .ok (.bipush (-10), 2) := by decide +kernel
theorem dL_isClosed_130 : decode cL_isClosed 130 = .ok (.if_icmp .ne 7, 3) := by decide +kernel
theorem dL_isClosed_133 : decode cL_isClosed 133 = .ok (.iconst 1, 1) := by decide +kernel
theorem dL_isClosed_134 : decode cL_isClosed 134 = .ok (.goto 4, 3) := by decide +kernel
theorem dL_isClosed_137 : decode cL_isClosed 137 = .ok (.iconst 0, 1) := by decide +kernel
theorem dL_isClosed_138 : decode cL_isClosed 138 = .ok (.ireturn, 1) := by decide +kernel
theorem dL_isClosed_139 : decode cL_isClosed 139 = .ok (.aload_n 2, 1) := by decide +kernel
theorem dL_isClosed_140 : decode cL_isClosed 140 = .ok (.iconst 1, 1) := by decide +kernel
theorem dL_isClosed_141 : decode cL_isClosed 141 = .ok (.dup2, 1) := by decide +kernel
theorem dL_isClosed_142 : decode cL_isClosed 142 = .ok (.iaload, 1) := by decide +kernel
theorem dL_isClosed_143 : decode cL_isClosed 143 = .ok (.iconst 1, 1) := by decide +kernel
theorem dL_isClosed_144 : decode cL_isClosed 144 = .ok (.iadd, 1) := by decide +kernel
theorem dL_isClosed_145 : decode cL_isClosed 145 = .ok (.iastore, 1) := by decide +kernel
theorem dL_isClosed_146 : decode cL_isClosed 146 = .ok (.iload 6, 2) := by decide +kernel
theorem dL_isClosed_148 : decode cL_isClosed 148 = .ok (.iload 4, 2) := by decide +kernel
theorem dL_isClosed_150 : decode cL_isClosed 150 = .ok (.if_icmp .ne 16, 3) := by decide +kernel
theorem dL_isClosed_153 : decode cL_isClosed 153 = .ok (.aload_n 0, 1) := by decide +kernel
theorem dL_isClosed_154 : decode cL_isClosed 154 = .ok (.invokevirtual 100, 3) := by decide +kernel
theorem dL_isClosed_157 : decode cL_isClosed 157 = .ok (.iload 5, 2) := by decide +kernel
theorem dL_isClosed_159 : decode cL_isClosed 159 = .ok (.if_icmp .ne 7, 3) := by decide +kernel
theorem dL_isClosed_162 : decode cL_isClosed 162 = .ok (.iconst 1, 1) := by decide +kernel
theorem dL_isClosed_163 : decode cL_isClosed 163 = .ok (.goto 4, 3) := by decide +kernel
theorem dL_isClosed_166 : decode cL_isClosed 166 = .ok (.iconst 0, 1) := by decide +kernel
theorem dL_isClosed_167 : decode cL_isClosed 167 = .ok (.istore 7, 2) := by decide +kernel
theorem dL_isClosed_169 : decode cL_isClosed 169 = .ok (.iconst 0, 1) := by decide +kernel
theorem dL_isClosed_170 : decode cL_isClosed 170 = .ok (.istore 8, 2) := by decide +kernel
theorem dL_isClosed_172 : decode cL_isClosed 172 = .ok (.iload 8, 2) := by decide +kernel
theorem dL_isClosed_174 : decode cL_isClosed 174 = .ok (.iconst 5, 1) := by decide +kernel
theorem dL_isClosed_175 : decode cL_isClosed 175 = .ok (.if_icmp .ge 42, 3) := by decide +kernel
theorem dL_isClosed_178 : decode cL_isClosed 178 = .ok (.iload 7, 2) := by decide +kernel
theorem dL_isClosed_180 : decode cL_isClosed 180 = .ok (.ifCond .eq 37, 3) := by decide +kernel
theorem dL_isClosed_183 : decode cL_isClosed 183 = .ok (.aload_n 0, 1) := by decide +kernel
theorem dL_isClosed_184 : decode cL_isClosed 184 = .ok (.iload 8, 2) := by decide +kernel
theorem dL_isClosed_186 : decode cL_isClosed 186 = .ok (.invokevirtual 83, 3) := by decide +kernel
theorem dL_isClosed_189 : decode cL_isClosed 189 = .ok (.ifCond .gt 19, 3) := by decide +kernel
theorem dL_isClosed_192 : decode cL_isClosed 192 = .ok (.aload_n 0, 1) := by decide +kernel
theorem dL_isClosed_193 : decode cL_isClosed 193 = .ok (.iload 8, 2) := by decide +kernel
theorem dL_isClosed_195 : decode cL_isClosed 195 = .ok (.aload_n 2, 1) := by decide +kernel
theorem dL_isClosed_196 : decode cL_isClosed 196 = .ok (.iconst 1, 1) := by decide +kernel
theorem dL_isClosed_197 : decode cL_isClosed 197 = .ok (.iaload, 1) := by decide +kernel
theorem dL_isClosed_198 : decode cL_isClosed 198 = .ok (.invokevirtual 80, 3) := by decide +kernel
theorem dL_isClosed_201 : decode cL_isClosed 201 = .ok (.ifCond .ne 7, 3) := by decide +kernel
theorem dL_isClosed_204 : decode cL_isClosed 204 = .ok (.iconst 1, 1) := by decide +kernel
theorem dL_isClosed_205 : decode cL_isClosed 205 = .ok (.goto 4, 3) := by decide +kernel
theorem dL_isClosed_208 : decode cL_isClosed 208 = .ok (.iconst 0, 1) := by decide +kernel
theorem dL_isClosed_209 : decode cL_isClosed 209 = .ok (.istore 7, 2) := by decide +kernel
theorem dL_isClosed_211 : decode cL_isClosed 211 = .ok (.iinc 8 1, 3) := by decide +kernel
theorem dL_isClosed_214 : decode cL_isClosed 214 = .ok (.goto (-42), 3) := by decide +kernel
theorem dL_isClosed_217 : decode cL_isClosed 217 = .ok (.iload 7, 2) := by decide +kernel
theorem dL_isClosed_219 : decode cL_isClosed 219 = .ok (.ireturn, 1) := by decide +kernel
set_option maxRecDepth 20000 in
theorem ggL_isDone_L_part : GoodIn wsL_isDone wsL_part := goodIn_r _ [4, 5] (by decide +kernel) (by decide +kernel)
set_option maxRecDepth 20000 in
theorem gL_isDone_L_part : GoodIn wsL_isDone (va_wsS RL 127 yL_part wsL_part) := goodIn_app (goodIn_of _ (by decide +kernel)) ggL_isDone_L_part
set_option maxRecDepth 20000 in
theorem ggL_isDone_L_does : GoodIn wsL_isDone wsL_does := goodIn_ca (goodIn_ca (goodIn_ca (goodIn_r _ [8, 9, 10, 11, 12, 13, 3, 14, 15, 16, 17, 18, 19, 20, 21, 22, 23, 24, 25, 26, 27, 28, 29, 30, 31, 32, 33, 34, 35, 36, 37, 38, 39, 40, 41, 42, 43, 44, 45, 46, 47, 48, 49, 50, 51, 52, 53, 54, 55, 56, 57, 58, 59, 60, 61, 62, 63, 64, 65, 66, 67, 68, 69, 70, 71, 72, 73, 74, 75, 76, 77, 78, 79, 80, 81, 82, 83, 84, 85, 86, 87, 88, 89, 90, 91, 92, 93, 94, 95, 96, 97, 98, 99, 100, 101, 102, 103, 104, 105, 106, 107, 108, 109, 110, 111, 112, 113, 114, 115, 116, 117, 118, 119, 120, 121, 122, 123, 124, 125, 126, 127, 128, 129, 130, 131, 132, 133, 134, 135, 136, 137, 138, 139, 140, 141, 142, 143, 144, 145, 146, 147, 148, 149, 150, 151, 152, 153, 154, 155, 156, 157, 158, 159, 160, 161, 162, 163, 164, 165, 166, 167, 168, 169, 170, 171, 172, 173, 174, 175, 176, 177, 178, 179, 180, 181, 182, 183, 184, 185, 186, 187, 188, 189, 190, 191, 192, 193, 194, 195, 196, 197, 198, 199, 200, 201, 202, 203, 204, 205, 206, 207, 208, 209, 210, 211, 212, 213, 214, 215, 216, 217, 218, 219, 220, 221, 222, 223, 224, 225, 226, 227, 228, 229, 230, 231, 232, 233, 234, 235, 236, 237, 238, 239, 240, 241, 242, 243, 244, 245, 246, 247, 248, 249, 250, 251, 252, 253, 254, 255, 256, 257, 258, 259, 260, 261, 262, 263, 264, 265, 266, 267, 268, 269, 270, 271, 272, 273, 274, 275, 276, 277, 278, 279, 280, 281, 282, 283, 284, 285, 286, 287, 288, 289, 290, 291, 292, 293, 294, 295, 296, 297, 298, 299, 300, 301, 302, 303, 304, 305, 306, 307, 308, 309, 310, 311, 312, 313, 314, 315, 316, 317, 318, 319, 320, 321, 322, 323, 324, 325, 326, 327, 388, 389, 390, 391, 392, 393, 394, 395, 396, 397, 398, 399, 400, 401, 402, 403, 404, 405, 406] (by decide +kernel) (by decide +kernel)) (goodIn_sub (fun _ h => List.mem_cons_of_mem _ (List.mem_append_left _ (List.mem_append_left _ (List.mem_append_right _ h)))) (by decide +kernel))) (goodIn_sub (fun _ h => List.mem_cons_of_mem _ (List.mem_append_left _ (List.mem_append_right _ h))) (by decide +kernel))) (goodIn_sub (fun _ h => List.mem_cons_of_mem _ (List.mem_append_right _ h)) (by decide +kernel))
set_option maxRecDepth 20000 in
theorem gL_isDone_L_does : GoodIn wsL_isDone (va_wsS RL 120 yL_does wsL_does) := goodIn_app (goodIn_of _ (by decide +kernel)) ggL_isDone_L_does
set_option maxRecDepth 20000 in
theorem ggL_isDone_L_isSeat : GoodIn wsL_isDone wsL_isSeat := goodIn_ca (goodIn_ca (goodIn_ca (goodIn_r _ [330, 6, 7, 3, 8, 9, 10, 11, 12, 13, 14, 15, 16, 17, 18, 19, 20, 21, 22, 23, 24, 25, 26, 27, 28, 29, 30, 31, 32, 33, 34, 35, 36, 37, 38, 39, 40, 41, 42, 43, 44, 45, 46, 47, 48, 49, 50, 51, 52, 53, 54, 55, 56, 57, 58, 59, 60, 61, 62, 63, 64, 65, 66, 67, 68, 69, 70, 71, 72, 73, 74, 75, 76, 77, 78, 79, 80, 81, 82, 83, 84, 85, 86, 87, 88, 89, 90, 91, 92, 93, 94, 95, 96, 97, 98, 99, 100, 101, 102, 103, 104, 105, 106, 107, 108, 109, 110, 111, 112, 113, 114, 115, 116, 117, 118, 119, 120, 121, 122, 123, 124, 125, 126, 127, 128, 129, 130, 131, 132, 133, 134, 135, 136, 137, 138, 139, 140, 141, 142, 143, 144, 145, 146, 147, 148, 149, 150, 151, 152, 153, 154, 155, 156, 157, 158, 159, 160, 161, 162, 163, 164, 165, 166, 167, 168, 169, 170, 171, 172, 173, 174, 175, 176, 177, 178, 179, 180, 181, 182, 183, 184, 185, 186, 187, 188, 189, 190, 191, 192, 193, 194, 195, 196, 197, 198, 199, 200, 201, 202, 203, 204, 205, 206, 207, 208, 209, 210, 211, 212, 213, 214, 215, 216, 217, 218, 219, 220, 221, 222, 223, 224, 225, 226, 227, 228, 229, 230, 231, 232, 233, 234, 235, 236, 237, 238, 239, 240, 241, 242, 243, 244, 245, 246, 247, 248, 249, 250, 251, 252, 253, 254, 255, 256, 257, 258, 259, 260, 261, 262, 263, 264, 265, 266, 267, 268, 269, 270, 271, 272, 273, 274, 275, 276, 277, 278, 279, 280, 281, 282, 283, 284, 285, 286, 287, 288, 289, 290, 291, 292, 293, 294, 295, 296, 297, 298, 299, 300, 301, 302, 303, 304, 305, 306, 307, 308, 309, 310, 311, 312, 313, 314, 315, 316, 317, 318, 319, 320, 321, 322, 323, 324, 325, 326, 327, 331, 332, 333, 334, 335, 336, 337, 338, 339, 340, 341, 342, 343, 344, 345, 388, 389, 390, 391, 392, 393, 394, 395, 396, 397, 398, 399, 400, 401, 402, 403, 404, 405, 406] (by decide +kernel) (by decide +kernel)) (goodIn_sub (fun _ h => List.mem_cons_of_mem _ (List.mem_append_left _ (List.mem_append_left _ (List.mem_append_right _ h)))) (by decide +kernel))) (goodIn_sub (fun _ h => List.mem_cons_of_mem _ (List.mem_append_left _ (List.mem_append_right _ h))) (by decide +kernel))) (goodIn_sub (fun _ h => List.mem_cons_of_mem _ (List.mem_append_right _ h)) (by decide +kernel))
set_option maxRecDepth 20000 in
theorem gL_isDone_L_isSeat : GoodIn wsL_isDone (va_wsS RL 131 yL_isSeat wsL_isSeat) := goodIn_app (goodIn_of _ (by decide +kernel)) ggL_isDone_L_isSeat
set_option maxRecDepth 20000 in
theorem ggL_isDone_L_isDriven : GoodIn wsL_isDone wsL_isDriven := goodIn_ca (goodIn_ca (goodIn_ca (goodIn_r _ [348, 349, 88, 6, 7, 3, 8, 9, 10, 11, 12, 13, 14, 15, 16, 17, 18, 19, 20, 21, 22, 23, 24, 25, 26, 27, 28, 29, 30, 31, 32, 33, 34, 35, 36, 37, 38, 39, 40, 41, 42, 43, 44, 45, 46, 47, 48, 49, 50, 51, 52, 53, 54, 55, 56, 57, 58, 59, 60, 61, 62, 63, 64, 65, 66, 67, 68, 69, 70, 71, 72, 73, 74, 75, 76, 77, 78, 79, 80, 81, 82, 83, 84, 85, 86, 87, 89, 90, 91, 92, 93, 94, 95, 96, 97, 98, 99, 100, 101, 102, 103, 104, 105, 106, 107, 108, 109, 110, 111, 112, 113, 114, 115, 116, 117, 118, 119, 120, 121, 122, 123, 124, 125, 126, 127, 128, 129, 130, 131, 132, 133, 134, 135, 136, 137, 138, 139, 140, 141, 142, 143, 144, 145, 146, 147, 148, 149, 150, 151, 152, 153, 154, 155, 156, 157, 158, 159, 160, 161, 162, 163, 164, 165, 166, 167, 168, 169, 170, 171, 172, 173, 174, 175, 176, 177, 178, 179, 180, 181, 182, 183, 184, 185, 186, 187, 188, 189, 190, 191, 192, 193, 194, 195, 196, 197, 198, 199, 200, 201, 202, 203, 204, 205, 206, 207, 208, 209, 210, 211, 212, 213, 214, 215, 216, 217, 218, 219, 220, 221, 222, 223, 224, 225, 226, 227, 228, 229, 230, 231, 232, 233, 234, 235, 236, 237, 238, 239, 240, 241, 242, 243, 244, 245, 246, 247, 248, 249, 250, 251, 252, 253, 254, 255, 256, 257, 258, 259, 260, 261, 262, 263, 264, 265, 266, 267, 268, 269, 270, 271, 272, 273, 274, 275, 276, 277, 278, 279, 280, 281, 282, 283, 284, 285, 286, 287, 288, 289, 290, 291, 292, 293, 294, 295, 296, 297, 298, 299, 300, 301, 302, 303, 304, 305, 306, 307, 308, 309, 310, 311, 312, 313, 314, 315, 316, 317, 318, 319, 320, 321, 322, 323, 324, 325, 326, 327, 331, 332, 333, 334, 335, 336, 337, 338, 339, 340, 341, 342, 343, 344, 345, 388, 389, 390, 391, 392, 393, 394, 395, 396, 397, 398, 399, 400, 401, 402, 403, 404, 405, 406] (by decide +kernel) (by decide +kernel)) (goodIn_sub (fun _ h => List.mem_cons_of_mem _ (List.mem_append_left _ (List.mem_append_left _ (List.mem_append_right _ h)))) (by decide +kernel))) (goodIn_sub (fun _ h => List.mem_cons_of_mem _ (List.mem_append_left _ (List.mem_append_right _ h))) (by decide +kernel))) (goodIn_sub (fun _ h => List.mem_cons_of_mem _ (List.mem_append_right _ h)) (by decide +kernel))
set_option maxRecDepth 20000 in
theorem gL_isDone_L_isDriven : GoodIn wsL_isDone (va_wsS RL 135 yL_isDriven wsL_isDriven) := goodIn_app (goodIn_of _ (by decide +kernel)) ggL_isDone_L_isDriven
set_option maxRecDepth 20000 in
theorem ggL_isDone_L_isFinished : GoodIn wsL_isDone wsL_isFinished := goodIn_ca (goodIn_ca (goodIn_ca (goodIn_r _ [352, 6, 7, 3, 8, 9, 10, 11, 12, 13, 14, 15, 16, 17, 18, 19, 20, 21, 22, 23, 24, 25, 26, 27, 28, 29, 30, 31, 32, 33, 34, 35, 36, 37, 38, 39, 40, 41, 42, 43, 44, 45, 46, 47, 48, 49, 50, 51, 52, 53, 54, 55, 56, 57, 58, 59, 60, 61, 62, 63, 64, 65, 66, 67, 68, 69, 70, 71, 72, 73, 74, 75, 76, 77, 78, 79, 80, 81, 82, 83, 84, 85, 86, 87, 88, 89, 90, 91, 92, 93, 94, 95, 96, 97, 98, 99, 100, 101, 102, 103, 104, 105, 106, 107, 108, 109, 110, 111, 112, 113, 114, 115, 116, 117, 118, 119, 120, 121, 122, 123, 124, 125, 126, 127, 128, 129, 130, 131, 132, 133, 134, 135, 136, 137, 138, 139, 140, 141, 142, 143, 144, 145, 146, 147, 148, 149, 150, 151, 152, 153, 154, 155, 156, 157, 158, 159, 160, 161, 162, 163, 164, 165, 166, 167, 168, 169, 170, 171, 172, 173, 174, 175, 176, 177, 178, 179, 180, 181, 182, 183, 184, 185, 186, 187, 188, 189, 190, 191, 192, 193, 194, 195, 196, 197, 198, 199, 200, 201, 202, 203, 204, 205, 206, 207, 208, 209, 210, 211, 212, 213, 214, 215, 216, 217, 218, 219, 220, 221, 222, 223, 224, 225, 226, 227, 228, 229, 230, 231, 232, 233, 234, 235, 236, 237, 238, 239, 240, 241, 242, 243, 244, 245, 246, 247, 248, 249, 250, 251, 252, 253, 254, 255, 256, 257, 258, 259, 260, 261, 262, 263, 264, 265, 266, 267, 268, 269, 270, 271, 272, 273, 274, 275, 276, 277, 278, 279, 280, 281, 282, 283, 284, 285, 286, 287, 288, 289, 290, 291, 292, 293, 294, 295, 296, 297, 298, 299, 300, 301, 302, 303, 304, 305, 306, 307, 308, 309, 310, 311, 312, 313, 314, 315, 316, 317, 318, 319, 320, 321, 322, 323, 324, 325, 326, 327, 339, 340, 341, 342, 343, 344, 345, 331, 332, 333, 334, 335, 336, 337, 338, 353, 354, 355, 356, 388, 389, 390, 391, 392, 393, 394, 395, 396, 397, 398, 399, 400, 401, 402, 403, 404, 405, 406] (by decide +kernel) (by decide +kernel)) (goodIn_sub (fun _ h => List.mem_cons_of_mem _ (List.mem_append_left _ (List.mem_append_left _ (List.mem_append_right _ h)))) (by decide +kernel))) (goodIn_sub (fun _ h => List.mem_cons_of_mem _ (List.mem_append_left _ (List.mem_append_right _ h))) (by decide +kernel))) (goodIn_sub (fun _ h => List.mem_cons_of_mem _ (List.mem_append_right _ h)) (by decide +kernel))
set_option maxRecDepth 20000 in
theorem gL_isDone_L_isFinished : GoodIn wsL_isDone (va_wsS RL 139 yL_isFinished wsL_isFinished) := goodIn_app (goodIn_of _ (by decide +kernel)) ggL_isDone_L_isFinished
set_option maxRecDepth 20000 in
theorem ggL_isDone_L_isDisputed : GoodIn wsL_isDone wsL_isDisputed := goodIn_ca (goodIn_ca (goodIn_ca (goodIn_r _ [359, 360, 6, 7, 3, 8, 9, 10, 11, 12, 13, 14, 15, 16, 17, 18, 19, 20, 21, 22, 23, 24, 25, 26, 27, 28, 29, 30, 31, 32, 33, 34, 35, 36, 37, 38, 39, 40, 41, 42, 43, 44, 45, 46, 47, 48, 49, 50, 51, 52, 53, 54, 55, 56, 57, 58, 59, 60, 61, 62, 63, 64, 65, 66, 67, 68, 69, 70, 71, 72, 73, 74, 75, 76, 77, 78, 79, 80, 81, 82, 83, 84, 85, 86, 87, 88, 89, 90, 91, 92, 93, 94, 95, 96, 97, 98, 99, 100, 101, 102, 103, 104, 105, 106, 107, 108, 109, 110, 111, 112, 113, 114, 115, 116, 117, 118, 119, 120, 121, 122, 123, 124, 125, 126, 127, 128, 129, 130, 131, 132, 133, 134, 135, 136, 137, 138, 139, 140, 141, 142, 143, 144, 145, 146, 147, 148, 149, 150, 151, 152, 153, 154, 155, 156, 157, 158, 159, 160, 161, 162, 163, 164, 165, 166, 167, 168, 169, 170, 171, 172, 173, 174, 175, 176, 177, 178, 179, 180, 181, 182, 183, 184, 185, 186, 187, 188, 189, 190, 191, 192, 193, 194, 195, 196, 197, 198, 199, 200, 201, 202, 203, 204, 205, 206, 207, 208, 209, 210, 211, 212, 213, 214, 215, 216, 217, 218, 219, 220, 221, 222, 223, 224, 225, 226, 227, 228, 229, 230, 231, 232, 233, 234, 235, 236, 237, 238, 239, 240, 241, 242, 243, 244, 245, 246, 247, 248, 249, 250, 251, 252, 253, 254, 255, 256, 257, 258, 259, 260, 261, 262, 263, 264, 265, 266, 267, 268, 269, 270, 271, 272, 273, 274, 275, 276, 277, 278, 279, 280, 281, 282, 283, 284, 285, 286, 287, 288, 289, 290, 291, 292, 293, 294, 295, 296, 297, 298, 299, 300, 301, 302, 303, 304, 305, 306, 307, 308, 309, 310, 311, 312, 313, 314, 315, 316, 317, 318, 319, 320, 321, 322, 323, 324, 325, 326, 327, 342, 343, 344, 345, 361, 362, 363, 364, 365, 366, 367, 368, 369, 370, 371, 372, 373, 374, 375, 376, 388, 389, 390, 391, 392, 393, 394, 395, 396, 397, 398, 399, 400, 401, 402, 403, 404, 405, 406] (by decide +kernel) (by decide +kernel)) (goodIn_sub (fun _ h => List.mem_cons_of_mem _ (List.mem_append_left _ (List.mem_append_left _ (List.mem_append_right _ h)))) (by decide +kernel))) (goodIn_sub (fun _ h => List.mem_cons_of_mem _ (List.mem_append_left _ (List.mem_append_right _ h))) (by decide +kernel))) (goodIn_sub (fun _ h => List.mem_cons_of_mem _ (List.mem_append_right _ h)) (by decide +kernel))
set_option maxRecDepth 20000 in
theorem gL_isDone_L_isDisputed : GoodIn wsL_isDone (va_wsS RL 143 yL_isDisputed wsL_isDisputed) := goodIn_app (goodIn_of _ (by decide +kernel)) ggL_isDone_L_isDisputed
set_option maxRecDepth 20000 in
theorem ggL_isDone_L_isClosed : GoodIn wsL_isDone wsL_isClosed := goodIn_ca (goodIn_ca (goodIn_ca (goodIn_r _ [379, 361, 362, 363, 18, 364, 33, 53, 37, 43, 44, 45, 46, 47, 48, 54, 55, 56, 57, 58, 59, 60, 61, 62, 63, 64, 65, 66, 67, 68, 69, 70, 76, 77, 78, 36, 79, 80, 235, 236, 237, 238, 89, 365, 366, 367, 368, 90, 280, 281, 282, 283, 284, 285, 286, 287, 288, 289, 290, 291, 292, 293, 294, 295, 75, 87, 296, 297, 298, 299, 300, 301, 302, 303, 265, 167, 168, 169, 304, 305, 306, 307, 308, 111, 112, 113, 309, 310, 311, 312, 313, 314, 315, 316, 317, 318, 319, 320, 198, 321, 322, 323, 324, 325, 326, 327, 380, 381, 382, 383, 38, 39, 40, 41, 42, 276, 277, 278, 279, 271, 384, 385, 386, 387, 22, 23, 24, 25, 26, 6, 7, 3, 8, 9, 10, 11, 12, 13, 14, 15, 16, 17, 19, 20, 21, 27, 28, 29, 30, 31, 32, 34, 35, 49, 50, 51, 52, 71, 72, 73, 74, 81, 82, 83, 84, 85, 86, 88, 91, 92, 93, 94, 95, 96, 97, 98, 99, 100, 101, 102, 103, 104, 105, 106, 107, 108, 109, 110, 114, 115, 116, 117, 118, 119, 120, 121, 122, 123, 124, 125, 126, 127, 128, 129, 130, 131, 132, 133, 134, 135, 136, 137, 138, 139, 140, 141, 142, 143, 144, 145, 146, 147, 148, 149, 150, 151, 152, 153, 154, 155, 156, 157, 158, 159, 160, 161, 162, 163, 164, 165, 166, 170, 171, 172, 173, 174, 175, 176, 177, 178, 179, 180, 181, 182, 183, 184, 185, 186, 187, 188, 189, 190, 191, 192, 193, 194, 195, 196, 197, 199, 200, 201, 202, 203, 204, 205, 206, 207, 208, 209, 210, 211, 212, 213, 214, 215, 216, 217, 218, 219, 220, 221, 222, 223, 224, 225, 226, 227, 228, 229, 230, 231, 232, 233, 234, 239, 240, 241, 242, 243, 244, 245, 246, 247, 248, 249, 250, 251, 252, 253, 254, 255, 256, 257, 258, 259, 260, 261, 262, 263, 264, 266, 267, 268, 269, 270, 272, 273, 274, 275, 388, 389, 390, 391, 392, 404, 405, 406, 393, 394, 395, 396, 397, 398, 399, 400, 401, 402, 403] (by decide +kernel) (by decide +kernel)) (goodIn_sub (fun _ h => List.mem_cons_of_mem _ (List.mem_append_right _ h)) (by decide +kernel))) (goodIn_sub (fun _ h => List.mem_cons_of_mem _ (List.mem_append_left _ (List.mem_append_left _ (List.mem_append_right _ h)))) (by decide +kernel))) (goodIn_sub (fun _ h => List.mem_cons_of_mem _ (List.mem_append_left _ (List.mem_append_right _ h))) (by decide +kernel))
set_option maxRecDepth 20000 in
theorem gL_isDone_L_isClosed : GoodIn wsL_isDone (va_wsS RL 147 yL_isClosed wsL_isClosed) := goodIn_app (goodIn_of _ (by decide +kernel)) ggL_isDone_L_isClosed
theorem dL_isDone_0 : decode cL_isDone 0 = .ok (.aload_n 1, 1) := by decide +kernel
theorem dL_isDone_1 : decode cL_isDone 1 = .ok (.iload_n 2, 1) := by decide +kernel
theorem dL_isDone_2 : decode cL_isDone 2 = .ok (.bipush 40, 2) := by decide +kernel
theorem dL_isDone_4 : decode cL_isDone 4 = .ok (.invokestatic 127, 3) := by decide +kernel
theorem dL_isDone_7 : decode cL_isDone 7 = .ok (.istore 8, 2) := by decide +kernel
theorem dL_isDone_9 : decode cL_isDone 9 = .ok (.aload_n 1, 1) := by decide +kernel
theorem dL_isDone_10 : decode cL_isDone 10 = .ok (.iload_n 2, 1) := by decide +kernel
theorem dL_isDone_11 : decode cL_isDone 11 = .ok (.iconst 1, 1) := by decide +kernel
theorem dL_isDone_12 : decode cL_isDone 12 = .ok (.iadd, 1) := by decide +kernel
theorem dL_isDone_13 : decode cL_isDone 13 = .ok (.sipush 6000, 3) := by decide +kernel
theorem dL_isDone_16 : decode cL_isDone 16 = .ok (.invokestatic 127, 3) := by decide +kernel
theorem dL_isDone_19 : decode cL_isDone 19 = .ok (.istore 9, 2) := by decide +kernel
theorem dL_isDone_21 : decode cL_isDone 21 = .ok (.aload_n 1, 1) := by decide +kernel
theorem dL_isDone_22 : decode cL_isDone 22 = .ok (.iload_n 2, 1) := by decide +kernel
theorem dL_isDone_23 : decode cL_isDone 23 = .ok (.iconst 2, 1) := by decide +kernel
theorem dL_isDone_24 : decode cL_isDone 24 = .ok (.iadd, 1) := by decide +kernel
theorem dL_isDone_25 : decode cL_isDone 25 = .ok (.sipush 7000, 3) := by decide +kernel
theorem dL_isDone_28 : decode cL_isDone 28 = .ok (.invokestatic 127, 3) := by decide +kernel
theorem dL_isDone_31 : decode cL_isDone 31 = .ok (.istore 10, 2) := by decide +kernel
theorem dL_isDone_33 : decode cL_isDone 33 = .ok (.aload_n 1, 1) := by decide +kernel
theorem dL_isDone_34 : decode cL_isDone 34 = .ok (.iload_n 2, 1) := by decide +kernel
theorem dL_isDone_35 : decode cL_isDone 35 = .ok (.iconst 3, 1) := by decide +kernel
theorem dL_isDone_36 : decode cL_isDone 36 = .ok (.iadd, 1) := by decide +kernel
theorem dL_isDone_37 : decode cL_isDone 37 = .ok (.sipush 8000, 3) := by decide +kernel
theorem dL_isDone_40 : decode cL_isDone 40 = .ok (.invokestatic 127, 3) := by decide +kernel
theorem dL_isDone_43 : decode cL_isDone 43 = .ok (.istore 11, 2) := by decide +kernel
theorem dL_isDone_45 : decode cL_isDone 45 = .ok (.aload 7, 2) := by decide +kernel
theorem dL_isDone_47 : decode cL_isDone 47 = .ok (.iconst 0, 1) := by decide +kernel
theorem dL_isDone_48 : decode cL_isDone 48 = .ok (.iaload, 1) := by decide +kernel
theorem dL_isDone_49 : decode cL_isDone 49 = .ok (.ifCond .ne 7, 3) := by decide +kernel
theorem dL_isDone_52 : decode cL_isDone 52 = .ok (.iconst 0, 1) := by decide +kernel
theorem dL_isDone_53 : decode cL_isDone 53 = .ok (.goto 49, 3) := by decide +kernel
theorem dL_isDone_56 : decode cL_isDone 56 = .ok (.iload 11, 2) := by decide +kernel
theorem dL_isDone_58 : decode cL_isDone 58 = .ok (.bipush 9, 2) := by decide +kernel
theorem dL_isDone_60 : decode cL_isDone 60 = .ok (.irem, 1) := by decide +kernel
theorem dL_isDone_61 : decode cL_isDone 61 = .ok (.ifCond .ne 15, 3) := by decide +kernel
theorem dL_isDone_64 : decode cL_isDone 64 = .ok (.iload 9, 2) := by decide +kernel
theorem dL_isDone_66 : decode cL_isDone 66 = .ok (.aload 7, 2) := by decide +kernel
theorem dL_isDone_68 : decode cL_isDone 68 = .ok (.iconst 0, 1) := by decide +kernel
theorem dL_isDone_69 : decode cL_isDone 69 = .ok (.iaload, 1) := by decide +kernel
theorem dL_isDone_70 : decode cL_isDone 70 = .ok (.iconst 1, 1) := by decide +kernel
theorem dL_isDone_71 : decode cL_isDone 71 = .ok (.iadd, 1) := by decide +kernel
theorem dL_isDone_72 : decode cL_isDone 72 = .ok (.irem, 1) := by decide +kernel
theorem dL_isDone_73 : decode cL_isDone 73 = .ok (.goto 29, 3) := by decide +kernel
theorem dL_isDone_76 : decode cL_isDone 76 = .ok (.aload 7, 2) := by decide +kernel
theorem dL_isDone_78 : decode cL_isDone 78 = .ok (.iconst 0, 1) := by decide +kernel
theorem dL_isDone_79 : decode cL_isDone 79 = .ok (.iaload, 1) := by decide +kernel
theorem dL_isDone_80 : decode cL_isDone 80 = .ok (.iconst 1, 1) := by decide +kernel
theorem dL_isDone_81 : decode cL_isDone 81 = .ok (.isub, 1) := by decide +kernel
theorem dL_isDone_82 : decode cL_isDone 82 = .ok (.iload 9, 2) := by decide +kernel
theorem dL_isDone_84 : decode cL_isDone 84 = .ok (.aload 7, 2) := by decide +kernel
theorem dL_isDone_86 : decode cL_isDone 86 = .ok (.iconst 0, 1) := by decide +kernel
theorem dL_isDone_87 : decode cL_isDone 87 = .ok (.iaload, 1) := by decide +kernel
theorem dL_isDone_88 : decode cL_isDone 88 = .ok (.iconst 3, 1) := by decide +kernel
theorem dL_isDone_89 : decode cL_isDone 89 = .ok (.if_icmp .le 7, 3) := by decide +kernel
theorem dL_isDone_92 : decode cL_isDone 92 = .ok (.iconst 3, 1) := by decide +kernel
theorem dL_isDone_93 : decode cL_isDone 93 = .ok (.goto 7, 3) := by decide +kernel
theorem dL_isDone_96 : decode cL_isDone 96 = .ok (.aload 7, 2) := by decide +kernel
theorem dL_isDone_98 : decode cL_isDone 98 = .ok (.iconst 0, 1) := by decide +kernel
theorem dL_isDone_99 : decode cL_isDone 99 = .ok (.iaload, 1) := by decide +kernel
theorem dL_isDone_100 : decode cL_isDone 100 = .ok (.irem, 1) := by decide +kernel
theorem dL_isDone_101 : decode cL_isDone 101 = .ok (.isub, 1) := by decide +kernel
theorem dL_isDone_102 : decode cL_isDone 102 = .ok (.istore 12, 2) := by decide +kernel
theorem dL_isDone_104 : decode cL_isDone 104 = .ok (.iload 8, 2) := by decide +kernel
theorem dL_isDone_106 : decode cL_isDone 106 = .ok (.bipush 6, 2) := by decide +kernel
theorem dL_isDone_108 : decode cL_isDone 108 = .ok (.if_icmp .ge 180, 3) := by decide +kernel
theorem dL_isDone_111 : decode cL_isDone 111 = .ok (.iload 9, 2) := by decide +kernel
theorem dL_isDone_113 : decode cL_isDone 113 = .ok (.bipush 6, 2) := by decide +kernel
theorem dL_isDone_115 : decode cL_isDone 115 = .ok (.irem, 1) := by decide +kernel
theorem dL_isDone_116 : decode cL_isDone 116 = .ok (.istore 13, 2) := by decide +kernel
theorem dL_isDone_118 : decode cL_isDone 118 = .ok (.iconst 0, 1) := by decide +kernel
theorem dL_isDone_119 : decode cL_isDone 119 = .ok (.istore 14, 2) := by decide +kernel
theorem dL_isDone_121 : decode cL_isDone 121 = .ok (.iconst 0, 1) := by decide +kernel
theorem dL_isDone_122 : decode cL_isDone 122 = .ok (.istore 15, 2) := by decide +kernel
theorem dL_isDone_124 : decode cL_isDone 124 = .ok (.iload 15, 2) := by decide +kernel
theorem dL_isDone_126 : decode cL_isDone 126 = .ok (.aload 7, 2) := by decide +kernel
theorem dL_isDone_128 : decode cL_isDone 128 = .ok (.iconst 0, 1) := by decide +kernel
theorem dL_isDone_129 : decode cL_isDone 129 = .ok (.iaload, 1) := by decide +kernel
theorem dL_isDone_130 : decode cL_isDone 130 = .ok (.if_icmp .ge 40, 3) := by decide +kernel
theorem dL_isDone_133 : decode cL_isDone 133 = .ok (.iload 14, 2) := by decide +kernel
theorem dL_isDone_135 : decode cL_isDone 135 = .ok (.ifCond .ne 22, 3) := by decide +kernel
theorem dL_isDone_138 : decode cL_isDone 138 = .ok (.aload_n 3, 1) := by decide +kernel
theorem dL_isDone_139 : decode cL_isDone 139 = .ok (.iload 15, 2) := by decide +kernel
theorem dL_isDone_141 : decode cL_isDone 141 = .ok (.iaload, 1) := by decide +kernel
theorem dL_isDone_142 : decode cL_isDone 142 = .ok (.iload 13, 2) := by decide +kernel
theorem dL_isDone_144 : decode cL_isDone 144 = .ok (.if_icmp .ne 17, 3) := by decide +kernel
theorem dL_isDone_147 : decode cL_isDone 147 = .ok (.aload_n 3, 1) := by decide +kernel
theorem dL_isDone_148 : decode cL_isDone 148 = .ok (.bipush 20, 2) := by decide +kernel
theorem dL_isDone_150 : decode cL_isDone 150 = .ok (.iload 15, 2) := by decide +kernel
theorem dL_isDone_152 : decode cL_isDone 152 = .ok (.iadd, 1) := by decide +kernel
theorem dL_isDone_153 : decode cL_isDone 153 = .ok (.iaload, 1) := by decide +kernel
theorem dL_isDone_154 : decode cL_isDone 154 = .ok (.ifCond .ne 7, 3) := by decide +kernel
theorem dL_isDone_157 : decode cL_isDone 157 = .ok (.iconst 1, 1) := by decide +kernel
theorem dL_isDone_158 : decode cL_isDone 158 = .ok (.goto 4, 3) := by decide +kernel
theorem dL_isDone_161 : decode cL_isDone 161 = .ok (.iconst 0, 1) := by decide +kernel
theorem dL_isDone_162 : decode cL_isDone 162 = .ok (.istore 14, 2) := by decide +kernel
theorem dL_isDone_164 : decode cL_isDone 164 = .ok (.iinc 15 1, 3) := by decide +kernel
theorem dL_isDone_167 : decode cL_isDone 167 = .ok (.goto (-43), 3) := by decide +kernel
theorem dL_isDone_170 : decode cL_isDone 170 = .ok (.aload 7, 2) := by decide +kernel
theorem dL_isDone_172 : decode cL_isDone 172 = .ok (.iconst 0, 1) := by decide +kernel
theorem dL_isDone_173 : decode cL_isDone 173 = .ok (.iaload, 1) := by decide +kernel
theorem dL_isDone_174 : decode cL_isDone 174 = .ok (.bipush 20, 2) := by decide +kernel
theorem dL_isDone_176 : decode cL_isDone 176 = .ok (.if_icmp .ne 30, 3) := by decide +kernel
theorem dL_isDone_179 : decode cL_isDone 179 = .ok (.iload 13, 2) := by decide +kernel
theorem dL_isDone_181 : decode cL_isDone 181 = .ok (.iconst 5, 1) := by decide +kernel
theorem dL_isDone_182 : decode cL_isDone 182 = .ok (.if_icmp .lt 18, 3) := by decide +kernel
theorem dL_isDone_185 : decode cL_isDone 185 = .ok (.aload_n 0, 1) := by decide +kernel
theorem dL_isDone_186 : decode cL_isDone 186 = .ok (.iconst 1, 1) := by decide +kernel
theorem dL_isDone_187 : decode cL_isDone 187 = .ok (.iload 13, 2) := by decide +kernel
theorem dL_isDone_189 : decode cL_isDone 189 = .ok (.iconst 0, 1) := by decide +kernel
theorem dL_isDone_190 : decode cL_isDone 190 = .ok (.iconst 0, 1) := by decide +kernel
theorem dL_isDone_191 : decode cL_isDone 191 = .ok (.iconst 0, 1) := by decide +kernel
theorem dL_isDone_192 : decode cL_isDone 192 = .ok (.invokestatic 120, 3) := by decide +kernel
theorem dL_isDone_195 : decode cL_isDone 195 = .ok (.bipush (-30), 2) := by decide +kernel
theorem dL_isDone_197 : decode cL_isDone 197 = .ok (.if_icmp .ne 7, 3) := by decide +kernel
theorem dL_isDone_200 : decode cL_isDone 200 = .ok (.iconst 1, 1) := by decide +kernel
theorem dL_isDone_201 : decode cL_isDone 201 = .ok (.goto 4, 3) := by decide +kernel
theorem dL_isDone_204 : decode cL_isDone 204 = .ok (.iconst 0, 1) := by decide +kernel
theorem dL_isDone_205 : decode cL_isDone 205 = .ok (.ireturn, 1) := by decide +kernel
theorem dL_isDone_206 : decode cL_isDone 206 = .ok (.iload 13, 2) := by decide +kernel
theorem dL_isDone_208 : decode cL_isDone 208 = .ok (.iconst 4, 1) := by decide +kernel
theorem dL_isDone_209 : decode cL_isDone 209 = .ok (.if_icmp .le 8, 3) := by decide +kernel
theorem dL_isDone_212 : decode cL_isDone 212 = .ok (.bipush (-30), 2) := by decide +kernel
theorem dL_isDone_214 : decode cL_isDone 214 = .ok (.goto 17, 3) := by decide +kernel
theorem dL_isDone_217 : decode cL_isDone 217 = .ok (.iload 14, 2) := by decide +kernel
theorem dL_isDone_219 : decode cL_isDone 219 = .ok (.ifCond .eq 8, 3) := by decide +kernel
theorem dL_isDone_222 : decode cL_isDone 222 = .ok (.bipush (-10), 2) := by decide +kernel
theorem dL_isDone_224 : decode cL_isDone 224 = .ok (.goto 7, 3) := by decide +kernel
theorem dL_isDone_227 : decode cL_isDone 227 = .ok (.aload 7, 2) := by decide +kernel
theorem dL_isDone_229 : decode cL_isDone 229 = .ok (.iconst 0, 1) := by decide +kernel
theorem dL_isDone_230 : decode cL_isDone 230 = .ok (.iaload, 1) := by decide +kernel
theorem dL_isDone_231 : decode cL_isDone 231 = .ok (.istore 15, 2) := by decide +kernel
theorem dL_isDone_233 : decode cL_isDone 233 = .ok (.aload_n 3, 1) := by decide +kernel
theorem dL_isDone_234 : decode cL_isDone 234 = .ok (.aload 7, 2) := by decide +kernel
theorem dL_isDone_236 : decode cL_isDone 236 = .ok (.iconst 0, 1) := by decide +kernel
theorem dL_isDone_237 : decode cL_isDone 237 = .ok (.iaload, 1) := by decide +kernel
theorem dL_isDone_238 : decode cL_isDone 238 = .ok (.iload 15, 2) := by decide +kernel
theorem dL_isDone_240 : decode cL_isDone 240 = .ok (.ifCond .ge 7, 3) := by decide +kernel
theorem dL_isDone_243 : decode cL_isDone 243 = .ok (.iconst 0, 1) := by decide +kernel
theorem dL_isDone_244 : decode cL_isDone 244 = .ok (.goto 5, 3) := by decide +kernel
theorem dL_isDone_247 : decode cL_isDone 247 = .ok (.iload 13, 2) := by decide +kernel
theorem dL_isDone_249 : decode cL_isDone 249 = .ok (.iastore, 1) := by decide +kernel
theorem dL_isDone_250 : decode cL_isDone 250 = .ok (.aload 7, 2) := by decide +kernel
theorem dL_isDone_252 : decode cL_isDone 252 = .ok (.iconst 0, 1) := by decide +kernel
theorem dL_isDone_253 : decode cL_isDone 253 = .ok (.dup2, 1) := by decide +kernel
theorem dL_isDone_254 : decode cL_isDone 254 = .ok (.iaload, 1) := by decide +kernel
theorem dL_isDone_255 : decode cL_isDone 255 = .ok (.iload 15, 2) := by decide +kernel
theorem dL_isDone_257 : decode cL_isDone 257 = .ok (.ifCond .ge 7, 3) := by decide +kernel
theorem dL_isDone_260 : decode cL_isDone 260 = .ok (.iconst 0, 1) := by decide +kernel
theorem dL_isDone_261 : decode cL_isDone 261 = .ok (.goto 4, 3) := by decide +kernel
theorem dL_isDone_264 : decode cL_isDone 264 = .ok (.iconst 1, 1) := by decide +kernel
theorem dL_isDone_265 : decode cL_isDone 265 = .ok (.iadd, 1) := by decide +kernel
theorem dL_isDone_266 : decode cL_isDone 266 = .ok (.iastore, 1) := by decide +kernel
theorem dL_isDone_267 : decode cL_isDone 267 = .ok (.aload_n 0, 1) := by decide +kernel
theorem dL_isDone_268 : decode cL_isDone 268 = .ok (.iconst 1, 1) := by decide +kernel
theorem dL_isDone_269 : decode cL_isDone 269 = .ok (.iload 13, 2) := by decide +kernel
theorem dL_isDone_271 : decode cL_isDone 271 = .ok (.iconst 0, 1) := by decide +kernel
theorem dL_isDone_272 : decode cL_isDone 272 = .ok (.iconst 0, 1) := by decide +kernel
theorem dL_isDone_273 : decode cL_isDone 273 = .ok (.iconst 0, 1) := by decide +kernel
theorem dL_isDone_274 : decode cL_isDone 274 = .ok (.invokestatic 120, 3) := by decide +kernel
theorem dL_isDone_277 : decode cL_isDone 277 = .ok (.iload 15, 2) := by decide +kernel
theorem dL_isDone_279 : decode cL_isDone 279 = .ok (.if_icmp .ne 7, 3) := by decide +kernel
theorem dL_isDone_282 : decode cL_isDone 282 = .ok (.iconst 1, 1) := by decide +kernel
theorem dL_isDone_283 : decode cL_isDone 283 = .ok (.goto 4, 3) := by decide +kernel
theorem dL_isDone_286 : decode cL_isDone 286 = .ok (.iconst 0, 1) := by decide +kernel
theorem dL_isDone_287 : decode cL_isDone 287 = .ok (.ireturn, 1) := by decide +kernel
theorem dL_isDone_288 : decode cL_isDone 288 = .ok (.iload 8, 2) := by decide +kernel
theorem dL_isDone_290 : decode cL_isDone 290 = .ok (.bipush 17, 2) := by decide +kernel
theorem dL_isDone_292 : decode cL_isDone 292 = .ok (.if_icmp .ge 54, 3) := by decide +kernel
theorem dL_isDone_295 : decode cL_isDone 295 = .ok (.aload_n 0, 1) := by decide +kernel
theorem dL_isDone_296 : decode cL_isDone 296 = .ok (.aload_n 3, 1) := by decide +kernel
theorem dL_isDone_297 : decode cL_isDone 297 = .ok (.aload 4, 2) := by decide +kernel
theorem dL_isDone_299 : decode cL_isDone 299 = .ok (.aload 7, 2) := by decide +kernel
theorem dL_isDone_301 : decode cL_isDone 301 = .ok (.iload 8, 2) := by decide +kernel
theorem dL_isDone_303 : decode cL_isDone 303 = .ok (.bipush 9, 2) := by decide +kernel
theorem dL_isDone_305 : decode cL_isDone 305 = .ok (.if_icmp .ge 7, 3) := by decide +kernel
theorem dL_isDone_308 : decode cL_isDone 308 = .ok (.iconst 2, 1) := by decide +kernel
theorem dL_isDone_309 : decode cL_isDone 309 = .ok (.goto 26, 3) := by decide +kernel
theorem dL_isDone_312 : decode cL_isDone 312 = .ok (.iload 8, 2) := by decide +kernel
theorem dL_isDone_314 : decode cL_isDone 314 = .ok (.bipush 9, 2) := by decide +kernel
theorem dL_isDone_316 : decode cL_isDone 316 = .ok (.if_icmp .ne 7, 3) := by decide +kernel
theorem dL_isDone_319 : decode cL_isDone 319 = .ok (.iconst 3, 1) := by decide +kernel
theorem dL_isDone_320 : decode cL_isDone 320 = .ok (.goto 15, 3) := by decide +kernel
theorem dL_isDone_323 : decode cL_isDone 323 = .ok (.iload 8, 2) := by decide +kernel
theorem dL_isDone_325 : decode cL_isDone 325 = .ok (.bipush 15, 2) := by decide +kernel
theorem dL_isDone_327 : decode cL_isDone 327 = .ok (.if_icmp .ge 7, 3) := by decide +kernel
theorem dL_isDone_330 : decode cL_isDone 330 = .ok (.iconst 4, 1) := by decide +kernel
theorem dL_isDone_331 : decode cL_isDone 331 = .ok (.goto 4, 3) := by decide +kernel
theorem dL_isDone_334 : decode cL_isDone 334 = .ok (.iconst 5, 1) := by decide +kernel
theorem dL_isDone_335 : decode cL_isDone 335 = .ok (.iload 12, 2) := by decide +kernel
theorem dL_isDone_337 : decode cL_isDone 337 = .ok (.iload 10, 2) := by decide +kernel
theorem dL_isDone_339 : decode cL_isDone 339 = .ok (.bipush 11, 2) := by decide +kernel
theorem dL_isDone_341 : decode cL_isDone 341 = .ok (.irem, 1) := by decide +kernel
theorem dL_isDone_342 : decode cL_isDone 342 = .ok (.invokestatic 131, 3) := by decide +kernel
theorem dL_isDone_345 : decode cL_isDone 345 = .ok (.ireturn, 1) := by decide +kernel
theorem dL_isDone_346 : decode cL_isDone 346 = .ok (.iload 8, 2) := by decide +kernel
theorem dL_isDone_348 : decode cL_isDone 348 = .ok (.bipush 24, 2) := by decide +kernel
theorem dL_isDone_350 : decode cL_isDone 350 = .ok (.if_icmp .ge 23, 3) := by decide +kernel
theorem dL_isDone_353 : decode cL_isDone 353 = .ok (.aload_n 0, 1) := by decide +kernel
theorem dL_isDone_354 : decode cL_isDone 354 = .ok (.aload_n 3, 1) := by decide +kernel
theorem dL_isDone_355 : decode cL_isDone 355 = .ok (.aload 7, 2) := by decide +kernel
theorem dL_isDone_357 : decode cL_isDone 357 = .ok (.iload 12, 2) := by decide +kernel
theorem dL_isDone_359 : decode cL_isDone 359 = .ok (.iload 10, 2) := by decide +kernel
theorem dL_isDone_361 : decode cL_isDone 361 = .ok (.bipush 102, 2) := by decide +kernel
theorem dL_isDone_363 : decode cL_isDone 363 = .ok (.irem, 1) := by decide +kernel
theorem dL_isDone_364 : decode cL_isDone 364 = .ok (.iload 11, 2) := by decide +kernel
theorem dL_isDone_366 : decode cL_isDone 366 = .ok (.bipush 122, 2) := by decide +kernel
theorem dL_isDone_368 : decode cL_isDone 368 = .ok (.irem, 1) := by decide +kernel
theorem dL_isDone_369 : decode cL_isDone 369 = .ok (.invokestatic 135, 3) := by decide +kernel
theorem dL_isDone_372 : decode cL_isDone 372 = .ok (.ireturn, 1) := by decide +kernel
theorem dL_isDone_373 : decode cL_isDone 373 = .ok (.iload 8, 2) := by decide +kernel
theorem dL_isDone_375 : decode cL_isDone 375 = .ok (.bipush 28, 2) := by decide +kernel
theorem dL_isDone_377 : decode cL_isDone 377 = .ok (.if_icmp .ge 15, 3) := by decide +kernel
theorem dL_isDone_380 : decode cL_isDone 380 = .ok (.aload_n 0, 1) := by decide +kernel
theorem dL_isDone_381 : decode cL_isDone 381 = .ok (.aload_n 3, 1) := by decide +kernel
theorem dL_isDone_382 : decode cL_isDone 382 = .ok (.aload 4, 2) := by decide +kernel
theorem dL_isDone_384 : decode cL_isDone 384 = .ok (.aload 7, 2) := by decide +kernel
theorem dL_isDone_386 : decode cL_isDone 386 = .ok (.iload 12, 2) := by decide +kernel
theorem dL_isDone_388 : decode cL_isDone 388 = .ok (.invokestatic 139, 3) := by decide +kernel
theorem dL_isDone_391 : decode cL_isDone 391 = .ok (.ireturn, 1) := by decide +kernel
theorem dL_isDone_392 : decode cL_isDone 392 = .ok (.iload 8, 2) := by decide +kernel
theorem dL_isDone_394 : decode cL_isDone 394 = .ok (.bipush 36, 2) := by decide +kernel
theorem dL_isDone_396 : decode cL_isDone 396 = .ok (.if_icmp .ge 69, 3) := by decide +kernel
theorem dL_isDone_399 : decode cL_isDone 399 = .ok (.aload_n 0, 1) := by decide +kernel
theorem dL_isDone_400 : decode cL_isDone 400 = .ok (.aload_n 3, 1) := by decide +kernel
theorem dL_isDone_401 : decode cL_isDone 401 = .ok (.aload 5, 2) := by decide +kernel
theorem dL_isDone_403 : decode cL_isDone 403 = .ok (.aload 6, 2) := by decide +kernel
theorem dL_isDone_405 : decode cL_isDone 405 = .ok (.aload 7, 2) := by decide +kernel
theorem dL_isDone_407 : decode cL_isDone 407 = .ok (.aload 7, 2) := by decide +kernel
theorem dL_isDone_409 : decode cL_isDone 409 = .ok (.iconst 0, 1) := by decide +kernel
theorem dL_isDone_410 : decode cL_isDone 410 = .ok (.iaload, 1) := by decide +kernel
theorem dL_isDone_411 : decode cL_isDone 411 = .ok (.ifCond .ne 7, 3) := by decide +kernel
theorem dL_isDone_414 : decode cL_isDone 414 = .ok (.iconst 0, 1) := by decide +kernel
theorem dL_isDone_415 : decode cL_isDone 415 = .ok (.goto 12, 3) := by decide +kernel
theorem dL_isDone_418 : decode cL_isDone 418 = .ok (.iload 9, 2) := by decide +kernel
theorem dL_isDone_420 : decode cL_isDone 420 = .ok (.aload 7, 2) := by decide +kernel
theorem dL_isDone_422 : decode cL_isDone 422 = .ok (.iconst 0, 1) := by decide +kernel
theorem dL_isDone_423 : decode cL_isDone 423 = .ok (.iaload, 1) := by decide +kernel
theorem dL_isDone_424 : decode cL_isDone 424 = .ok (.iconst 1, 1) := by decide +kernel
theorem dL_isDone_425 : decode cL_isDone 425 = .ok (.iadd, 1) := by decide +kernel
theorem dL_isDone_426 : decode cL_isDone 426 = .ok (.irem, 1) := by decide +kernel
theorem dL_isDone_427 : decode cL_isDone 427 = .ok (.iload 10, 2) := by decide +kernel
theorem dL_isDone_429 : decode cL_isDone 429 = .ok (.bipush 11, 2) := by decide +kernel
theorem dL_isDone_431 : decode cL_isDone 431 = .ok (.irem, 1) := by decide +kernel
theorem dL_isDone_432 : decode cL_isDone 432 = .ok (.iload 10, 2) := by decide +kernel
theorem dL_isDone_434 : decode cL_isDone 434 = .ok (.iconst 3, 1) := by decide +kernel
theorem dL_isDone_435 : decode cL_isDone 435 = .ok (.irem, 1) := by decide +kernel
theorem dL_isDone_436 : decode cL_isDone 436 = .ok (.ifCond .ne 8, 3) := by decide +kernel
theorem dL_isDone_439 : decode cL_isDone 439 = .ok (.bipush 100, 2) := by decide +kernel
theorem dL_isDone_441 : decode cL_isDone 441 = .ok (.goto 8, 3) := by decide +kernel
theorem dL_isDone_444 : decode cL_isDone 444 = .ok (.iload 11, 2) := by decide +kernel
theorem dL_isDone_446 : decode cL_isDone 446 = .ok (.bipush 103, 2) := by decide +kernel
theorem dL_isDone_448 : decode cL_isDone 448 = .ok (.irem, 1) := by decide +kernel
theorem dL_isDone_449 : decode cL_isDone 449 = .ok (.iload 9, 2) := by decide +kernel
theorem dL_isDone_451 : decode cL_isDone 451 = .ok (.iconst 2, 1) := by decide +kernel
theorem dL_isDone_452 : decode cL_isDone 452 = .ok (.irem, 1) := by decide +kernel
theorem dL_isDone_453 : decode cL_isDone 453 = .ok (.ifCond .ne 7, 3) := by decide +kernel
theorem dL_isDone_456 : decode cL_isDone 456 = .ok (.iconst 1, 1) := by decide +kernel
theorem dL_isDone_457 : decode cL_isDone 457 = .ok (.goto 4, 3) := by decide +kernel
theorem dL_isDone_460 : decode cL_isDone 460 = .ok (.iconst 0, 1) := by decide +kernel
theorem dL_isDone_461 : decode cL_isDone 461 = .ok (.invokestatic 143, 3) := by decide +kernel
theorem dL_isDone_464 : decode cL_isDone 464 = .ok (.ireturn, 1) := by decide +kernel
theorem dL_isDone_465 : decode cL_isDone 465 = .ok (.iload 8, 2) := by decide +kernel
theorem dL_isDone_467 : decode cL_isDone 467 = .ok (.bipush 38, 2) := by decide +kernel
theorem dL_isDone_469 : decode cL_isDone 469 = .ok (.if_icmp .ge 11, 3) := by decide +kernel
theorem dL_isDone_472 : decode cL_isDone 472 = .ok (.aload_n 0, 1) := by decide +kernel
theorem dL_isDone_473 : decode cL_isDone 473 = .ok (.aload_n 3, 1) := by decide +kernel
theorem dL_isDone_474 : decode cL_isDone 474 = .ok (.aload 7, 2) := by decide +kernel
theorem dL_isDone_476 : decode cL_isDone 476 = .ok (.invokestatic 147, 3) := by decide +kernel
theorem dL_isDone_479 : decode cL_isDone 479 = .ok (.ireturn, 1) := by decide +kernel
theorem dL_isDone_480 : decode cL_isDone 480 = .ok (.iload 9, 2) := by decide +kernel
theorem dL_isDone_482 : decode cL_isDone 482 = .ok (.sipush 1002, 3) := by decide +kernel
theorem dL_isDone_485 : decode cL_isDone 485 = .ok (.irem, 1) := by decide +kernel
theorem dL_isDone_486 : decode cL_isDone 486 = .ok (.sipush 1001, 3) := by decide +kernel
theorem dL_isDone_489 : decode cL_isDone 489 = .ok (.if_icmp .ge 19, 3) := by decide +kernel
theorem dL_isDone_492 : decode cL_isDone 492 = .ok (.iload 10, 2) := by decide +kernel
theorem dL_isDone_494 : decode cL_isDone 494 = .ok (.sipush 1002, 3) := by decide +kernel
theorem dL_isDone_497 : decode cL_isDone 497 = .ok (.irem, 1) := by decide +kernel
theorem dL_isDone_498 : decode cL_isDone 498 = .ok (.sipush 1001, 3) := by decide +kernel
theorem dL_isDone_501 : decode cL_isDone 501 = .ok (.if_icmp .ge 7, 3) := by decide +kernel
theorem dL_isDone_504 : decode cL_isDone 504 = .ok (.iconst 1, 1) := by decide +kernel
theorem dL_isDone_505 : decode cL_isDone 505 = .ok (.goto 4, 3) := by decide +kernel
theorem dL_isDone_508 : decode cL_isDone 508 = .ok (.iconst 0, 1) := by decide +kernel
theorem dL_isDone_509 : decode cL_isDone 509 = .ok (.istore 13, 2) := by decide +kernel
theorem dL_isDone_511 : decode cL_isDone 511 = .ok (.aload 7, 2) := by decide +kernel
theorem dL_isDone_513 : decode cL_isDone 513 = .ok (.iconst 2, 1) := by decide +kernel
theorem dL_isDone_514 : decode cL_isDone 514 = .ok (.iload 13, 2) := by decide +kernel
theorem dL_isDone_516 : decode cL_isDone 516 = .ok (.ifCond .eq 12, 3) := by decide +kernel
theorem dL_isDone_519 : decode cL_isDone 519 = .ok (.iload 9, 2) := by decide +kernel
theorem dL_isDone_521 : decode cL_isDone 521 = .ok (.sipush 1002, 3) := by decide +kernel
theorem dL_isDone_524 : decode cL_isDone 524 = .ok (.irem, 1) := by decide +kernel
theorem dL_isDone_525 : decode cL_isDone 525 = .ok (.goto 7, 3) := by decide +kernel
theorem dL_isDone_528 : decode cL_isDone 528 = .ok (.aload 7, 2) := by decide +kernel
theorem dL_isDone_530 : decode cL_isDone 530 = .ok (.iconst 2, 1) := by decide +kernel
theorem dL_isDone_531 : decode cL_isDone 531 = .ok (.iaload, 1) := by decide +kernel
theorem dL_isDone_532 : decode cL_isDone 532 = .ok (.iastore, 1) := by decide +kernel
theorem dL_isDone_533 : decode cL_isDone 533 = .ok (.aload 7, 2) := by decide +kernel
theorem dL_isDone_535 : decode cL_isDone 535 = .ok (.iconst 3, 1) := by decide +kernel
theorem dL_isDone_536 : decode cL_isDone 536 = .ok (.iload 13, 2) := by decide +kernel
theorem dL_isDone_538 : decode cL_isDone 538 = .ok (.ifCond .eq 12, 3) := by decide +kernel
theorem dL_isDone_541 : decode cL_isDone 541 = .ok (.iload 10, 2) := by decide +kernel
theorem dL_isDone_543 : decode cL_isDone 543 = .ok (.sipush 1002, 3) := by decide +kernel
theorem dL_isDone_546 : decode cL_isDone 546 = .ok (.irem, 1) := by decide +kernel
theorem dL_isDone_547 : decode cL_isDone 547 = .ok (.goto 7, 3) := by decide +kernel
theorem dL_isDone_550 : decode cL_isDone 550 = .ok (.aload 7, 2) := by decide +kernel
theorem dL_isDone_552 : decode cL_isDone 552 = .ok (.iconst 3, 1) := by decide +kernel
theorem dL_isDone_553 : decode cL_isDone 553 = .ok (.iaload, 1) := by decide +kernel
theorem dL_isDone_554 : decode cL_isDone 554 = .ok (.iastore, 1) := by decide +kernel
theorem dL_isDone_555 : decode cL_isDone 555 = .ok (.aload_n 0, 1) := by decide +kernel
theorem dL_isDone_556 : decode cL_isDone 556 = .ok (.iconst 0, 1) := by decide +kernel
theorem dL_isDone_557 : decode cL_isDone 557 = .ok (.iload 9, 2) := by decide +kernel
theorem dL_isDone_559 : decode cL_isDone 559 = .ok (.sipush 1002, 3) := by decide +kernel
theorem dL_isDone_562 : decode cL_isDone 562 = .ok (.irem, 1) := by decide +kernel
theorem dL_isDone_563 : decode cL_isDone 563 = .ok (.iload 10, 2) := by decide +kernel
theorem dL_isDone_565 : decode cL_isDone 565 = .ok (.sipush 1002, 3) := by decide +kernel
theorem dL_isDone_568 : decode cL_isDone 568 = .ok (.irem, 1) := by decide +kernel
theorem dL_isDone_569 : decode cL_isDone 569 = .ok (.iconst 0, 1) := by decide +kernel
theorem dL_isDone_570 : decode cL_isDone 570 = .ok (.iconst 0, 1) := by decide +kernel
theorem dL_isDone_571 : decode cL_isDone 571 = .ok (.invokestatic 120, 3) := by decide +kernel
theorem dL_isDone_574 : decode cL_isDone 574 = .ok (.iload 13, 2) := by decide +kernel
theorem dL_isDone_576 : decode cL_isDone 576 = .ok (.ifCond .eq 7, 3) := by decide +kernel
theorem dL_isDone_579 : decode cL_isDone 579 = .ok (.iconst 0, 1) := by decide +kernel
theorem dL_isDone_580 : decode cL_isDone 580 = .ok (.goto 5, 3) := by decide +kernel
theorem dL_isDone_583 : decode cL_isDone 583 = .ok (.bipush (-20), 2) := by decide +kernel
theorem dL_isDone_585 : decode cL_isDone 585 = .ok (.if_icmp .ne 7, 3) := by decide +kernel
theorem dL_isDone_588 : decode cL_isDone 588 = .ok (.iconst 1, 1) := by decide +kernel
theorem dL_isDone_589 : decode cL_isDone 589 = .ok (.goto 4, 3) := by decide +kernel
theorem dL_isDone_592 : decode cL_isDone 592 = .ok (.iconst 0, 1) := by decide +kernel
theorem dL_isDone_593 : decode cL_isDone 593 = .ok (.ireturn, 1) := by decide +kernel
set_option maxRecDepth 20000 in
theorem ggL_law_X1_init : GoodIn wsL_law wsX1_init := goodIn_r _ [9, 10, 11, 12, 13, 14, 15, 16, 3, 17, 18, 19, 20, 21, 22, 23, 24, 25, 26, 27, 28, 29, 30, 31, 32, 33, 34, 35, 464, 465, 466, 459, 460, 461, 462, 463] (by decide +kernel) (by decide +kernel)
set_option maxRecDepth 20000 in
theorem gL_law_X1_init : GoodIn wsL_law (wsX1_init) := ggL_law_X1_init
set_option maxRecDepth 20000 in
theorem ggL_law_L_isMoney : GoodIn wsL_law wsL_isMoney := goodIn_ca (goodIn_ca (goodIn_ca (goodIn_r _ [39, 40, 5, 4, 41, 42, 43, 2, 44, 16, 45, 20, 46, 47, 48, 15, 49, 50, 51, 52, 53, 54, 55, 56, 57, 58, 59, 60, 61, 62, 63, 64, 65, 66, 25, 67, 68, 69, 70, 71, 72, 73, 74, 75, 76, 77, 78, 79, 80, 81, 82, 83, 84, 85, 86, 87, 88, 89, 90, 91, 92, 93, 94, 95, 96, 97, 98, 99, 100, 101, 102, 103, 104, 105, 106, 107, 108, 109, 110, 111, 112, 113, 114, 115, 116, 117, 118, 119, 120, 121, 122, 123, 124, 125, 126, 127, 128, 129, 130, 131, 132, 133, 134, 135, 136, 137, 138, 139, 140, 141, 142, 143, 144, 145, 146, 147, 148, 149, 150, 151, 152, 153, 154, 155, 156, 157, 158, 159, 160, 161, 162, 163, 164, 165, 166, 167, 168, 169, 170, 171, 172, 173, 174, 175, 176, 177, 178, 179, 180, 38, 181, 182, 183, 6, 184, 185, 186, 187, 188, 189, 190, 191, 192, 193, 194, 195, 196, 197, 198, 199, 200, 201, 202, 203, 204, 205, 206, 207, 208, 209, 210, 211, 212, 213, 214, 215, 216, 217, 218, 219, 220, 221, 222, 223, 224, 225, 226, 227, 228, 229, 17, 230, 231, 232, 233, 234, 235, 236, 237, 238, 239, 240, 241, 242, 243, 244, 245, 246, 247, 248, 249, 250, 459, 460, 461, 462, 463, 464, 465, 466, 467, 468, 469, 470, 471, 472, 473, 474, 475, 476, 477] (by decide +kernel) (by decide +kernel)) (goodIn_sub (fun _ h => List.mem_append_left _ (List.mem_append_left _ (List.mem_append_right _ h))) (by decide +kernel))) (goodIn_sub (fun _ h => List.mem_append_left _ (List.mem_append_right _ h)) (by decide +kernel))) (goodIn_sub (fun _ h => List.mem_append_right _ h) (by decide +kernel))
set_option maxRecDepth 20000 in
theorem gL_law_L_isMoney : GoodIn wsL_law (va_wsS RL 152 yL_isMoney wsL_isMoney) := goodIn_app (goodIn_of _ (by decide +kernel)) ggL_law_L_isMoney
set_option maxRecDepth 20000 in
theorem ggL_law_L_areRides : GoodIn wsL_law wsL_areRides := goodIn_ca (goodIn_ca (goodIn_r _ [253, 4, 234, 235, 38, 236, 182, 237, 5, 238, 239, 240, 2, 241, 166, 167, 168, 169, 170, 171, 16, 45, 46, 47, 48, 15, 49, 50, 51, 52, 53, 54, 55, 56, 57, 58, 59, 60, 61, 62, 63, 64, 65, 66, 25, 242, 243, 244, 70, 245, 246, 162, 163, 164, 165, 172, 173, 174, 175, 176, 177, 178, 77, 247, 248, 249, 250, 125, 126, 127, 128, 109, 82, 72, 110, 111, 112, 198, 199, 200, 201, 20, 202, 203, 204, 205, 206, 207, 208, 209, 91, 92, 93, 94, 95, 96, 97, 98, 99, 100, 101, 102, 103, 104, 105, 106, 107, 108, 214, 215, 216, 217, 113, 114, 115, 116, 117, 118, 119, 120, 121, 122, 123, 124, 129, 130, 131, 132, 133, 210, 211, 212, 213, 134, 135, 136, 137, 138, 139, 140, 218, 219, 220, 221, 87, 88, 89, 90, 222, 223, 224, 225, 226, 227, 228, 229, 17, 83, 84, 85, 86, 230, 231, 232, 233, 190, 191, 192, 193, 67, 68, 69, 71, 194, 195, 196, 197, 254, 255, 256, 459, 460, 461, 462, 463, 464, 465, 466, 467, 468, 469, 470, 471, 472, 473, 474, 475, 476, 477] (by decide +kernel) (by decide +kernel)) (goodIn_sub (fun _ h => List.mem_append_left _ (List.mem_append_left _ (List.mem_append_right _ h))) (by decide +kernel))) (goodIn_sub (fun _ h => List.mem_append_right _ h) (by decide +kernel))
set_option maxRecDepth 20000 in
theorem gL_law_L_areRides : GoodIn wsL_law (va_wsS RL 156 yL_areRides wsL_areRides) := goodIn_app (goodIn_of _ (by decide +kernel)) ggL_law_L_areRides
set_option maxRecDepth 20000 in
theorem ggL_law_L_isDone : GoodIn wsL_law wsL_isDone := goodIn_ca (goodIn_ca (goodIn_ca (goodIn_r _ [259, 260, 261, 38, 262, 263, 264, 265, 266, 182, 237, 183, 267, 268, 269, 270, 271, 272, 2, 273, 18, 19, 205, 206, 207, 208, 209, 274, 275, 276, 277, 188, 189, 16, 278, 279, 70, 20, 202, 203, 204, 170, 171, 46, 47, 48, 15, 49, 50, 280, 281, 282, 283, 45, 51, 52, 53, 54, 55, 56, 57, 58, 59, 60, 61, 62, 63, 64, 65, 66, 25, 284, 285, 286, 287, 99, 67, 68, 69, 71, 72, 288, 289, 290, 291, 11, 12, 100, 3, 77, 82, 292, 293, 294, 295, 296, 297, 298, 299, 300, 301, 302, 303, 304, 305, 306, 307, 308, 309, 24, 310, 118, 119, 120, 311, 312, 313, 314, 315, 316, 317, 318, 319, 320, 321, 322, 323, 324, 325, 326, 327, 328, 329, 330, 331, 332, 333, 334, 335, 336, 337, 338, 339, 340, 341, 342, 343, 344, 345, 346, 347, 348, 166, 167, 168, 169, 172, 173, 174, 349, 350, 351, 352, 353, 354, 355, 356, 110, 111, 112, 357, 358, 359, 360, 246, 361, 362, 363, 364, 155, 156, 157, 158, 159, 160, 161, 365, 366, 367, 368, 369, 370, 371, 372, 373, 374, 375, 376, 133, 377, 378, 379, 380, 381, 382, 383, 384, 385, 386, 387, 388, 389, 390, 391, 392, 175, 176, 177, 178, 393, 394, 395, 396, 397, 398, 399, 400, 401, 402, 403, 404, 405, 406, 407, 408, 73, 74, 75, 76, 409, 410, 411, 412, 413, 414, 415, 416, 153, 417, 418, 419, 420, 421, 422, 423, 424, 425, 426, 427, 428, 154, 429, 430, 431, 432, 109, 433, 434, 435, 436, 437, 17, 438, 439, 440, 441, 226, 227, 228, 229, 83, 84, 85, 86, 87, 88, 89, 90, 91, 92, 93, 94, 95, 96, 97, 98, 101, 102, 103, 104, 105, 106, 107, 108, 113, 114, 115, 116, 117, 121, 122, 123, 124, 125, 126, 127, 128, 129, 130, 131, 132, 134, 135, 136, 137, 138, 139, 140, 442, 443, 444, 238, 239, 240, 241, 242, 243, 244, 245, 254, 255, 256, 162, 163, 164, 165, 445, 446, 447, 448, 449, 450, 451, 247, 248, 249, 250, 452, 453, 454, 455, 41, 42, 43, 44, 78, 79, 80, 81, 190, 191, 192, 193, 194, 195, 196, 197, 456, 457, 458, 222, 223, 224, 225, 218, 219, 220, 221, 459, 460, 461, 462, 463, 467, 468, 469, 470, 471, 472, 473, 474, 475, 476, 477, 464, 465, 466] (by decide +kernel) (by decide +kernel)) (goodIn_sub (fun _ h => List.mem_append_right _ h) (by decide +kernel))) (goodIn_sub (fun _ h => List.mem_append_left _ (List.mem_append_right _ h)) (by decide +kernel))) (goodIn_sub (fun _ h => List.mem_append_left _ (List.mem_append_left _ (List.mem_append_right _ h))) (by decide +kernel))
set_option maxRecDepth 20000 in
theorem gL_law_L_isDone : GoodIn wsL_law (va_wsS RL 159 yL_isDone wsL_isDone) := goodIn_app (goodIn_of _ (by decide +kernel)) ggL_law_L_isDone
set_option maxRecDepth 20000 in
theorem ggL_law_L_does : GoodIn wsL_law wsL_does := goodIn_ca (goodIn_ca (goodIn_ca (goodIn_r _ [266, 182, 237, 183, 267, 268, 38, 269, 270, 271, 272, 2, 273, 18, 19, 205, 206, 207, 208, 209, 274, 275, 276, 277, 188, 189, 16, 278, 279, 70, 20, 202, 203, 204, 170, 171, 46, 47, 48, 15, 49, 50, 280, 281, 282, 283, 45, 51, 52, 53, 54, 55, 56, 57, 58, 59, 60, 61, 62, 63, 64, 65, 66, 25, 284, 285, 286, 287, 99, 67, 68, 69, 71, 72, 288, 289, 290, 291, 11, 12, 100, 3, 77, 82, 292, 293, 294, 295, 296, 297, 298, 299, 300, 301, 302, 303, 304, 305, 306, 307, 308, 309, 24, 310, 118, 119, 120, 311, 312, 313, 314, 315, 316, 317, 318, 319, 320, 321, 322, 323, 324, 325, 326, 327, 328, 329, 330, 331, 332, 333, 334, 335, 336, 337, 338, 339, 340, 341, 342, 343, 344, 345, 346, 347, 348, 166, 167, 168, 169, 172, 173, 174, 349, 350, 351, 352, 353, 354, 355, 356, 110, 111, 112, 357, 358, 359, 360, 246, 361, 362, 363, 364, 155, 156, 157, 158, 159, 160, 161, 365, 366, 367, 368, 369, 370, 371, 372, 373, 374, 375, 376, 133, 377, 378, 379, 380, 381, 382, 383, 384, 385, 386, 387, 388, 389, 390, 391, 392, 175, 176, 177, 178, 393, 394, 395, 396, 397, 398, 399, 400, 401, 402, 403, 404, 405, 406, 407, 408, 73, 74, 75, 76, 409, 410, 411, 412, 413, 414, 415, 416, 153, 417, 418, 419, 420, 421, 422, 423, 424, 425, 426, 427, 428, 154, 429, 430, 431, 432, 109, 433, 434, 435, 436, 437, 17, 438, 439, 440, 441, 226, 227, 228, 229, 83, 84, 85, 86, 87, 88, 89, 90, 91, 92, 93, 94, 95, 96, 97, 98, 101, 102, 103, 104, 105, 106, 107, 108, 113, 114, 115, 116, 117, 121, 122, 123, 124, 125, 126, 127, 128, 129, 130, 131, 132, 134, 135, 136, 137, 138, 139, 140, 459, 460, 461, 462, 463, 467, 468, 469, 470, 471, 472, 473, 474, 475, 476, 477, 464, 465, 466] (by decide +kernel) (by decide +kernel)) (goodIn_sub (fun _ h => List.mem_append_right _ h) (by decide +kernel))) (goodIn_sub (fun _ h => List.mem_append_left _ (List.mem_append_right _ h)) (by decide +kernel))) (goodIn_sub (fun _ h => List.mem_append_left _ (List.mem_append_left _ (List.mem_append_right _ h))) (by decide +kernel))
set_option maxRecDepth 20000 in
theorem gL_law_L_does : GoodIn wsL_law (va_wsS RL 120 yL_does wsL_does) := goodIn_app (goodIn_of _ (by decide +kernel)) ggL_law_L_does
set_option maxRecDepth 20000 in
theorem ggL_law_L_asks : GoodIn wsL_law wsL_asks := goodIn_ca (goodIn_ca (goodIn_r _ [236, 182, 237, 4, 5, 238, 239, 240, 2, 241, 166, 167, 168, 169, 170, 171, 16, 45, 46, 47, 48, 15, 49, 50, 51, 52, 53, 54, 55, 56, 57, 58, 59, 60, 61, 62, 63, 64, 65, 66, 25, 242, 243, 244, 70, 245, 246, 162, 163, 164, 165, 172, 173, 174, 175, 176, 177, 178, 77, 247, 248, 249, 250, 125, 126, 127, 128, 109, 82, 72, 110, 111, 112, 198, 199, 200, 201, 20, 202, 203, 204, 205, 206, 207, 208, 209, 91, 92, 93, 94, 95, 96, 97, 98, 99, 100, 101, 102, 103, 104, 105, 106, 107, 108, 214, 215, 216, 217, 113, 114, 115, 116, 117, 118, 119, 120, 121, 122, 123, 124, 129, 130, 131, 132, 133, 210, 211, 212, 213, 134, 135, 136, 137, 138, 139, 140, 218, 219, 220, 221, 87, 88, 89, 90, 222, 223, 224, 225, 226, 227, 228, 229, 17, 83, 84, 85, 86, 230, 231, 232, 233, 190, 191, 192, 193, 67, 68, 69, 71, 194, 195, 196, 197, 459, 460, 461, 462, 463, 464, 465, 466, 467, 468, 469, 470, 471, 472, 473, 474, 475, 476, 477] (by decide +kernel) (by decide +kernel)) (goodIn_sub (fun _ h => List.mem_append_left _ (List.mem_append_left _ (List.mem_append_right _ h))) (by decide +kernel))) (goodIn_sub (fun _ h => List.mem_append_right _ h) (by decide +kernel))
set_option maxRecDepth 20000 in
theorem gL_law_L_asks : GoodIn wsL_law (va_wsS RL 113 yL_asks wsL_asks) := goodIn_app (goodIn_of _ (by decide +kernel)) ggL_law_L_asks
set_option maxRecDepth 20000 in
theorem ggL_law_L_average : GoodIn wsL_law wsL_average := goodIn_ca (goodIn_ca (goodIn_r _ [181, 182, 183, 6, 40, 184, 185, 186, 2, 187, 188, 189, 16, 45, 172, 173, 174, 170, 171, 46, 47, 48, 15, 49, 50, 51, 52, 53, 54, 55, 56, 57, 58, 59, 60, 61, 62, 63, 64, 65, 66, 25, 67, 68, 69, 70, 71, 72, 175, 176, 177, 178, 77, 459, 460, 461, 462, 463, 464, 465, 466, 467, 468, 469, 470, 471, 472, 473, 474, 475, 476, 477] (by decide +kernel) (by decide +kernel)) (goodIn_sub (fun _ h => List.mem_append_left _ (List.mem_append_right _ h)) (by decide +kernel))) (goodIn_sub (fun _ h => List.mem_append_left _ (List.mem_append_left _ (List.mem_append_right _ h))) (by decide +kernel))
set_option maxRecDepth 20000 in
theorem gL_law_L_average : GoodIn wsL_law (va_wsS RL 109 yL_average wsL_average) := goodIn_app (goodIn_of _ (by decide +kernel)) ggL_law_L_average
theorem dL_law_0 : decode cL_law 0 = .ok (.new 9, 3) := by decide +kernel
theorem dL_law_3 : decode cL_law 3 = .ok (.dup, 1) := by decide +kernel
theorem dL_law_4 : decode cL_law 4 = .ok (.invokespecial 151, 3) := by decide +kernel
theorem dL_law_7 : decode cL_law 7 = .ok (.astore_n 1, 1) := by decide +kernel
theorem dL_law_8 : decode cL_law 8 = .ok (.bipush 60, 2) := by decide +kernel
theorem dL_law_10 : decode cL_law 10 = .ok (.newarray .int, 2) := by decide +kernel
theorem dL_law_12 : decode cL_law 12 = .ok (.astore_n 2, 1) := by decide +kernel
theorem dL_law_13 : decode cL_law 13 = .ok (.bipush 20, 2) := by decide +kernel
theorem dL_law_15 : decode cL_law 15 = .ok (.newarray .int, 2) := by decide +kernel
theorem dL_law_17 : decode cL_law 17 = .ok (.astore_n 3, 1) := by decide +kernel
theorem dL_law_18 : decode cL_law 18 = .ok (.bipush 20, 2) := by decide +kernel
theorem dL_law_20 : decode cL_law 20 = .ok (.newarray .int, 2) := by decide +kernel
theorem dL_law_22 : decode cL_law 22 = .ok (.astore 4, 2) := by decide +kernel
theorem dL_law_24 : decode cL_law 24 = .ok (.bipush 10, 2) := by decide +kernel
theorem dL_law_26 : decode cL_law 26 = .ok (.newarray .int, 2) := by decide +kernel
theorem dL_law_28 : decode cL_law 28 = .ok (.astore 5, 2) := by decide +kernel
theorem dL_law_30 : decode cL_law 30 = .ok (.iconst 5, 1) := by decide +kernel
theorem dL_law_31 : decode cL_law 31 = .ok (.newarray .int, 2) := by decide +kernel
theorem dL_law_33 : decode cL_law 33 = .ok (.astore 6, 2) := by decide +kernel
theorem dL_law_35 : decode cL_law 35 = .ok (.aload 6, 2) := by decide +kernel
theorem dL_law_37 : decode cL_law 37 = .ok (.iconst 2, 1) := by decide +kernel
theorem dL_law_38 : decode cL_law 38 = .ok (.bipush 100, 2) := by decide +kernel
theorem dL_law_40 : decode cL_law 40 = .ok (.iastore, 1) := by decide +kernel
theorem dL_law_41 : decode cL_law 41 = .ok (.aload 6, 2) := by decide +kernel
theorem dL_law_43 : decode cL_law 43 = .ok (.iconst 3, 1) := by decide +kernel
theorem dL_law_44 : decode cL_law 44 = .ok (.bipush 20, 2) := by decide +kernel
theorem dL_law_46 : decode cL_law 46 = .ok (.iastore, 1) := by decide +kernel
theorem dL_law_47 : decode cL_law 47 = .ok (.aload_n 1, 1) := by decide +kernel
theorem dL_law_48 : decode cL_law 48 = .ok (.aload_n 2, 1) := by decide +kernel
theorem dL_law_49 : decode cL_law 49 = .ok (.aload 5, 2) := by decide +kernel
theorem dL_law_51 : decode cL_law 51 = .ok (.aload 6, 2) := by decide +kernel
theorem dL_law_53 : decode cL_law 53 = .ok (.invokestatic 152, 3) := by decide +kernel
theorem dL_law_56 : decode cL_law 56 = .ok (.ifCond .eq 18, 3) := by decide +kernel
theorem dL_law_59 : decode cL_law 59 = .ok (.aload_n 1, 1) := by decide +kernel
theorem dL_law_60 : decode cL_law 60 = .ok (.aload_n 2, 1) := by decide +kernel
theorem dL_law_61 : decode cL_law 61 = .ok (.aload_n 3, 1) := by decide +kernel
theorem dL_law_62 : decode cL_law 62 = .ok (.aload 6, 2) := by decide +kernel
theorem dL_law_64 : decode cL_law 64 = .ok (.invokestatic 156, 3) := by decide +kernel
theorem dL_law_67 : decode cL_law 67 = .ok (.ifCond .eq 7, 3) := by decide +kernel
theorem dL_law_70 : decode cL_law 70 = .ok (.iconst 1, 1) := by decide +kernel
theorem dL_law_71 : decode cL_law 71 = .ok (.goto 4, 3) := by decide +kernel
theorem dL_law_74 : decode cL_law 74 = .ok (.iconst 0, 1) := by decide +kernel
theorem dL_law_75 : decode cL_law 75 = .ok (.istore 7, 2) := by decide +kernel
theorem dL_law_77 : decode cL_law 77 = .ok (.iconst 0, 1) := by decide +kernel
theorem dL_law_78 : decode cL_law 78 = .ok (.istore 8, 2) := by decide +kernel
theorem dL_law_80 : decode cL_law 80 = .ok (.iload 8, 2) := by decide +kernel
theorem dL_law_82 : decode cL_law 82 = .ok (.bipush 64, 2) := by decide +kernel
theorem dL_law_84 : decode cL_law 84 = .ok (.if_icmp .ge 64, 3) := by decide +kernel
theorem dL_law_87 : decode cL_law 87 = .ok (.iload 7, 2) := by decide +kernel
theorem dL_law_89 : decode cL_law 89 = .ok (.ifCond .eq 59, 3) := by decide +kernel
theorem dL_law_92 : decode cL_law 92 = .ok (.aload_n 1, 1) := by decide +kernel
theorem dL_law_93 : decode cL_law 93 = .ok (.aload_n 0, 1) := by decide +kernel
theorem dL_law_94 : decode cL_law 94 = .ok (.iconst 4, 1) := by decide +kernel
theorem dL_law_95 : decode cL_law 95 = .ok (.iload 8, 2) := by decide +kernel
theorem dL_law_97 : decode cL_law 97 = .ok (.imul, 1) := by decide +kernel
theorem dL_law_98 : decode cL_law 98 = .ok (.aload_n 2, 1) := by decide +kernel
theorem dL_law_99 : decode cL_law 99 = .ok (.aload_n 3, 1) := by decide +kernel
theorem dL_law_100 : decode cL_law 100 = .ok (.aload 4, 2) := by decide +kernel
theorem dL_law_102 : decode cL_law 102 = .ok (.aload 5, 2) := by decide +kernel
theorem dL_law_104 : decode cL_law 104 = .ok (.aload 6, 2) := by decide +kernel
theorem dL_law_106 : decode cL_law 106 = .ok (.invokestatic 159, 3) := by decide +kernel
theorem dL_law_109 : decode cL_law 109 = .ok (.ifCond .eq 30, 3) := by decide +kernel
theorem dL_law_112 : decode cL_law 112 = .ok (.aload_n 1, 1) := by decide +kernel
theorem dL_law_113 : decode cL_law 113 = .ok (.aload_n 2, 1) := by decide +kernel
theorem dL_law_114 : decode cL_law 114 = .ok (.aload_n 3, 1) := by decide +kernel
theorem dL_law_115 : decode cL_law 115 = .ok (.aload 6, 2) := by decide +kernel
theorem dL_law_117 : decode cL_law 117 = .ok (.invokestatic 156, 3) := by decide +kernel
theorem dL_law_120 : decode cL_law 120 = .ok (.ifCond .eq 19, 3) := by decide +kernel
theorem dL_law_123 : decode cL_law 123 = .ok (.aload_n 1, 1) := by decide +kernel
theorem dL_law_124 : decode cL_law 124 = .ok (.aload_n 2, 1) := by decide +kernel
theorem dL_law_125 : decode cL_law 125 = .ok (.aload 5, 2) := by decide +kernel
theorem dL_law_127 : decode cL_law 127 = .ok (.aload 6, 2) := by decide +kernel
theorem dL_law_129 : decode cL_law 129 = .ok (.invokestatic 152, 3) := by decide +kernel
theorem dL_law_132 : decode cL_law 132 = .ok (.ifCond .eq 7, 3) := by decide +kernel
theorem dL_law_135 : decode cL_law 135 = .ok (.iconst 1, 1) := by decide +kernel
theorem dL_law_136 : decode cL_law 136 = .ok (.goto 4, 3) := by decide +kernel
theorem dL_law_139 : decode cL_law 139 = .ok (.iconst 0, 1) := by decide +kernel
theorem dL_law_140 : decode cL_law 140 = .ok (.istore 7, 2) := by decide +kernel
theorem dL_law_142 : decode cL_law 142 = .ok (.iinc 8 1, 3) := by decide +kernel
theorem dL_law_145 : decode cL_law 145 = .ok (.goto (-65), 3) := by decide +kernel
theorem dL_law_148 : decode cL_law 148 = .ok (.iload 7, 2) := by decide +kernel
theorem dL_law_150 : decode cL_law 150 = .ok (.ifCond .eq 106, 3) := by decide +kernel
theorem dL_law_153 : decode cL_law 153 = .ok (.aload_n 1, 1) := by decide +kernel
theorem dL_law_154 : decode cL_law 154 = .ok (.iconst 0, 1) := by decide +kernel
theorem dL_law_155 : decode cL_law 155 = .ok (.iconst (-1), 1) := by decide +kernel
theorem dL_law_156 : decode cL_law 156 = .ok (.iconst 0, 1) := by decide +kernel
theorem dL_law_157 : decode cL_law 157 = .ok (.iconst 0, 1) := by decide +kernel
theorem dL_law_158 : decode cL_law 158 = .ok (.iconst 0, 1) := by decide +kernel
theorem dL_law_159 : decode cL_law 159 = .ok (.invokestatic 120, 3) := by decide +kernel
theorem dL_law_162 : decode cL_law 162 = .ok (.bipush (-20), 2) := by decide +kernel
theorem dL_law_164 : decode cL_law 164 = .ok (.if_icmp .ne 92, 3) := by decide +kernel
theorem dL_law_167 : decode cL_law 167 = .ok (.aload_n 1, 1) := by decide +kernel
theorem dL_law_168 : decode cL_law 168 = .ok (.iconst 1, 1) := by decide +kernel
theorem dL_law_169 : decode cL_law 169 = .ok (.iconst (-1), 1) := by decide +kernel
theorem dL_law_170 : decode cL_law 170 = .ok (.iconst 0, 1) := by decide +kernel
theorem dL_law_171 : decode cL_law 171 = .ok (.iconst 0, 1) := by decide +kernel
theorem dL_law_172 : decode cL_law 172 = .ok (.iconst 0, 1) := by decide +kernel
theorem dL_law_173 : decode cL_law 173 = .ok (.invokestatic 120, 3) := by decide +kernel
theorem dL_law_176 : decode cL_law 176 = .ok (.bipush (-30), 2) := by decide +kernel
theorem dL_law_178 : decode cL_law 178 = .ok (.if_icmp .ne 78, 3) := by decide +kernel
theorem dL_law_181 : decode cL_law 181 = .ok (.aload_n 1, 1) := by decide +kernel
theorem dL_law_182 : decode cL_law 182 = .ok (.bipush 6, 2) := by decide +kernel
theorem dL_law_184 : decode cL_law 184 = .ok (.bipush 40, 2) := by decide +kernel
theorem dL_law_186 : decode cL_law 186 = .ok (.bipush 101, 2) := by decide +kernel
theorem dL_law_188 : decode cL_law 188 = .ok (.iconst 0, 1) := by decide +kernel
theorem dL_law_189 : decode cL_law 189 = .ok (.iconst 0, 1) := by decide +kernel
theorem dL_law_190 : decode cL_law 190 = .ok (.invokestatic 120, 3) := by decide +kernel
theorem dL_law_193 : decode cL_law 193 = .ok (.bipush (-30), 2) := by decide +kernel
theorem dL_law_195 : decode cL_law 195 = .ok (.if_icmp .ne 61, 3) := by decide +kernel
theorem dL_law_198 : decode cL_law 198 = .ok (.aload_n 1, 1) := by decide +kernel
theorem dL_law_199 : decode cL_law 199 = .ok (.bipush 9, 2) := by decide +kernel
theorem dL_law_201 : decode cL_law 201 = .ok (.bipush 40, 2) := by decide +kernel
theorem dL_law_203 : decode cL_law 203 = .ok (.iconst 0, 1) := by decide +kernel
theorem dL_law_204 : decode cL_law 204 = .ok (.bipush 101, 2) := by decide +kernel
theorem dL_law_206 : decode cL_law 206 = .ok (.iconst 1, 1) := by decide +kernel
theorem dL_law_207 : decode cL_law 207 = .ok (.invokestatic 120, 3) := by decide +kernel
theorem dL_law_210 : decode cL_law 210 = .ok (.bipush (-30), 2) := by decide +kernel
theorem dL_law_212 : decode cL_law 212 = .ok (.if_icmp .ne 44, 3) := by decide +kernel
theorem dL_law_215 : decode cL_law 215 = .ok (.aload_n 1, 1) := by decide +kernel
theorem dL_law_216 : decode cL_law 216 = .ok (.iconst 3, 1) := by decide +kernel
theorem dL_law_217 : decode cL_law 217 = .ok (.iconst 5, 1) := by decide +kernel
theorem dL_law_218 : decode cL_law 218 = .ok (.iconst (-1), 1) := by decide +kernel
theorem dL_law_219 : decode cL_law 219 = .ok (.invokestatic 113, 3) := by decide +kernel
theorem dL_law_222 : decode cL_law 222 = .ok (.ldc 92, 2) := by decide +kernel
theorem dL_law_224 : decode cL_law 224 = .ok (.if_icmp .ne 32, 3) := by decide +kernel
theorem dL_law_227 : decode cL_law 227 = .ok (.aload_n 1, 1) := by decide +kernel
theorem dL_law_228 : decode cL_law 228 = .ok (.iconst 4, 1) := by decide +kernel
theorem dL_law_229 : decode cL_law 229 = .ok (.iconst 0, 1) := by decide +kernel
theorem dL_law_230 : decode cL_law 230 = .ok (.iconst (-1), 1) := by decide +kernel
theorem dL_law_231 : decode cL_law 231 = .ok (.invokestatic 113, 3) := by decide +kernel
theorem dL_law_234 : decode cL_law 234 = .ok (.ldc 93, 2) := by decide +kernel
theorem dL_law_236 : decode cL_law 236 = .ok (.if_icmp .ne 20, 3) := by decide +kernel
theorem dL_law_239 : decode cL_law 239 = .ok (.aload_n 1, 1) := by decide +kernel
theorem dL_law_240 : decode cL_law 240 = .ok (.bipush 8, 2) := by decide +kernel
theorem dL_law_242 : decode cL_law 242 = .ok (.iconst (-1), 1) := by decide +kernel
theorem dL_law_243 : decode cL_law 243 = .ok (.iconst 0, 1) := by decide +kernel
theorem dL_law_244 : decode cL_law 244 = .ok (.invokestatic 113, 3) := by decide +kernel
theorem dL_law_247 : decode cL_law 247 = .ok (.ldc 92, 2) := by decide +kernel
theorem dL_law_249 : decode cL_law 249 = .ok (.if_icmp .ne 7, 3) := by decide +kernel
theorem dL_law_252 : decode cL_law 252 = .ok (.iconst 1, 1) := by decide +kernel
theorem dL_law_253 : decode cL_law 253 = .ok (.goto 4, 3) := by decide +kernel
theorem dL_law_256 : decode cL_law 256 = .ok (.iconst 0, 1) := by decide +kernel
theorem dL_law_257 : decode cL_law 257 = .ok (.istore 7, 2) := by decide +kernel
theorem dL_law_259 : decode cL_law 259 = .ok (.iload 7, 2) := by decide +kernel
theorem dL_law_261 : decode cL_law 261 = .ok (.ifCond .eq 19, 3) := by decide +kernel
theorem dL_law_264 : decode cL_law 264 = .ok (.aload_n 1, 1) := by decide +kernel
theorem dL_law_265 : decode cL_law 265 = .ok (.bipush 10, 2) := by decide +kernel
theorem dL_law_267 : decode cL_law 267 = .ok (.invokestatic 109, 3) := by decide +kernel
theorem dL_law_270 : decode cL_law 270 = .ok (.ldc 98, 2) := by decide +kernel
theorem dL_law_272 : decode cL_law 272 = .ok (.fcmp .l, 1) := by decide +kernel
theorem dL_law_273 : decode cL_law 273 = .ok (.ifCond .ne 7, 3) := by decide +kernel
theorem dL_law_276 : decode cL_law 276 = .ok (.iconst 1, 1) := by decide +kernel
theorem dL_law_277 : decode cL_law 277 = .ok (.goto 4, 3) := by decide +kernel
theorem dL_law_280 : decode cL_law 280 = .ok (.iconst 0, 1) := by decide +kernel
theorem dL_law_281 : decode cL_law 281 = .ok (.ireturn, 1) := by decide +kernel
abbrev vwCl : List vw_C := [(RJx4a65c, TJx4a65c, 3), (RX0, TX0, 11), (RX1, TX1, 5)]
