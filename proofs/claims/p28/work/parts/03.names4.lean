theorem dL_isDriven_284 : decode cL_isDriven 284 = .ok (.iload 15, 2) := by decide +kernel
theorem dL_isDriven_286 : decode cL_isDriven 286 = .ok (.iload 11, 2) := by decide +kernel
theorem dL_isDriven_288 : decode cL_isDriven 288 = .ok (.if_icmp .gt 29, 3) := by decide +kernel
theorem dL_isDriven_291 : decode cL_isDriven 291 = .ok (.iload 15, 2) := by decide +kernel
theorem dL_isDriven_293 : decode cL_isDriven 293 = .ok (.iload 9, 2) := by decide +kernel
theorem dL_isDriven_295 : decode cL_isDriven 295 = .ok (.iload 8, 2) := by decide +kernel
theorem dL_isDriven_297 : decode cL_isDriven 297 = .ok (.idiv, 1) := by decide +kernel
theorem dL_isDriven_298 : decode cL_isDriven 298 = .ok (.if_icmp .lt 19, 3) := by decide +kernel
theorem dL_isDriven_301 : decode cL_isDriven 301 = .ok (.iload 15, 2) := by decide +kernel
theorem dL_isDriven_303 : decode cL_isDriven 303 = .ok (.iload 9, 2) := by decide +kernel
theorem dL_isDriven_305 : decode cL_isDriven 305 = .ok (.iload 8, 2) := by decide +kernel
theorem dL_isDriven_307 : decode cL_isDriven 307 = .ok (.idiv, 1) := by decide +kernel
theorem dL_isDriven_308 : decode cL_isDriven 308 = .ok (.iconst 1, 1) := by decide +kernel
theorem dL_isDriven_309 : decode cL_isDriven 309 = .ok (.iadd, 1) := by decide +kernel
theorem dL_isDriven_310 : decode cL_isDriven 310 = .ok (.if_icmp .gt 7, 3) := by decide +kernel
theorem dL_isDriven_313 : decode cL_isDriven 313 = .ok (.iconst 1, 1) := by decide +kernel
theorem dL_isDriven_314 : decode cL_isDriven 314 = .ok (.goto 17, 3) := by decide +kernel
theorem dL_isDriven_317 : decode cL_isDriven 317 = .ok (.iconst 0, 1) := by decide +kernel
theorem dL_isDriven_318 : decode cL_isDriven 318 = .ok (.goto 13, 3) := by decide +kernel
theorem dL_isDriven_321 : decode cL_isDriven 321 = .ok (.iload 15, 2) := by decide +kernel
theorem dL_isDriven_323 : decode cL_isDriven 323 = .ok (.ifCond .ne 7, 3) := by decide +kernel
theorem dL_isDriven_326 : decode cL_isDriven 326 = .ok (.iconst 1, 1) := by decide +kernel
theorem dL_isDriven_327 : decode cL_isDriven 327 = .ok (.goto 4, 3) := by decide +kernel
theorem dL_isDriven_330 : decode cL_isDriven 330 = .ok (.iconst 0, 1) := by decide +kernel
theorem dL_isDriven_331 : decode cL_isDriven 331 = .ok (.istore 13, 2) := by decide +kernel
theorem dL_isDriven_333 : decode cL_isDriven 333 = .ok (.iload 16, 2) := by decide +kernel
theorem dL_isDriven_335 : decode cL_isDriven 335 = .ok (.ifCond .eq 8, 3) := by decide +kernel
theorem dL_isDriven_338 : decode cL_isDriven 338 = .ok (.iload 15, 2) := by decide +kernel
theorem dL_isDriven_340 : decode cL_isDriven 340 = .ok (.goto 5, 3) := by decide +kernel
theorem dL_isDriven_343 : decode cL_isDriven 343 = .ok (.iload 11, 2) := by decide +kernel
theorem dL_isDriven_345 : decode cL_isDriven 345 = .ok (.istore 11, 2) := by decide +kernel
theorem dL_isDriven_347 : decode cL_isDriven 347 = .ok (.iload 10, 2) := by decide +kernel
theorem dL_isDriven_349 : decode cL_isDriven 349 = .ok (.aload_n 0, 1) := by decide +kernel
theorem dL_isDriven_350 : decode cL_isDriven 350 = .ok (.iload_n 3, 1) := by decide +kernel
theorem dL_isDriven_351 : decode cL_isDriven 351 = .ok (.iload 14, 2) := by decide +kernel
theorem dL_isDriven_353 : decode cL_isDriven 353 = .ok (.invokevirtual 64, 3) := by decide +kernel
theorem dL_isDriven_356 : decode cL_isDriven 356 = .ok (.iadd, 1) := by decide +kernel
theorem dL_isDriven_357 : decode cL_isDriven 357 = .ok (.istore 10, 2) := by decide +kernel
theorem dL_isDriven_359 : decode cL_isDriven 359 = .ok (.iinc 14 1, 3) := by decide +kernel
theorem dL_isDriven_362 : decode cL_isDriven 362 = .ok (.goto (-128), 3) := by decide +kernel
theorem dL_isDriven_365 : decode cL_isDriven 365 = .ok (.iload 13, 2) := by decide +kernel
theorem dL_isDriven_367 : decode cL_isDriven 367 = .ok (.ifCond .eq 24, 3) := by decide +kernel
theorem dL_isDriven_370 : decode cL_isDriven 370 = .ok (.iload 10, 2) := by decide +kernel
theorem dL_isDriven_372 : decode cL_isDriven 372 = .ok (.iload 9, 2) := by decide +kernel
theorem dL_isDriven_374 : decode cL_isDriven 374 = .ok (.if_icmp .ne 17, 3) := by decide +kernel
theorem dL_isDriven_377 : decode cL_isDriven 377 = .ok (.aload_n 0, 1) := by decide +kernel
theorem dL_isDriven_378 : decode cL_isDriven 378 = .ok (.iload_n 3, 1) := by decide +kernel
theorem dL_isDriven_379 : decode cL_isDriven 379 = .ok (.invokevirtual 61, 3) := by decide +kernel
theorem dL_isDriven_382 : decode cL_isDriven 382 = .ok (.iload 7, 2) := by decide +kernel
theorem dL_isDriven_384 : decode cL_isDriven 384 = .ok (.if_icmp .ne 7, 3) := by decide +kernel
theorem dL_isDriven_387 : decode cL_isDriven 387 = .ok (.iconst 1, 1) := by decide +kernel
theorem dL_isDriven_388 : decode cL_isDriven 388 = .ok (.goto 4, 3) := by decide +kernel
theorem dL_isDriven_391 : decode cL_isDriven 391 = .ok (.iconst 0, 1) := by decide +kernel
theorem dL_isDriven_392 : decode cL_isDriven 392 = .ok (.ireturn, 1) := by decide +kernel
set_option maxRecDepth 20000 in
theorem ggL_isFinished_L_does : GoodIn wsL_isFinished wsL_does := goodIn_ca (goodIn_ca (goodIn_ca (goodIn_r _ [4, 5, 6, 7, 8, 9, 3, 10, 11, 12, 13, 14, 15, 16, 17, 18, 19, 20, 21, 22, 23, 24, 25, 26, 27, 28, 29, 30, 31, 32, 33, 34, 35, 36, 37, 38, 39, 40, 41, 42, 43, 44, 45, 46, 47, 48, 49, 50, 51, 52, 53, 54, 55, 56, 57, 58, 59, 60, 61, 62, 63, 64, 65, 66, 67, 68, 69, 70, 71, 72, 73, 74, 75, 76, 77, 78, 79, 80, 81, 82, 83, 84, 85, 86, 87, 88, 89, 90, 91, 92, 93, 94, 95, 96, 97, 98, 99, 100, 101, 102, 103, 104, 105, 106, 107, 108, 109, 110, 111, 112, 113, 114, 115, 116, 117, 118, 119, 120, 121, 122, 123, 124, 125, 126, 127, 128, 129, 130, 131, 132, 133, 134, 135, 136, 137, 138, 139, 140, 141, 142, 143, 144, 145, 146, 147, 148, 149, 150, 151, 152, 153, 154, 155, 156, 157, 158, 159, 160, 161, 162, 163, 164, 165, 166, 167, 168, 169, 170, 171, 172, 173, 174, 175, 176, 177, 178, 179, 180, 181, 182, 183, 184, 185, 186, 187, 188, 189, 190, 191, 192, 193, 194, 195, 196, 197, 198, 199, 200, 201, 202, 203, 204, 205, 206, 207, 208, 209, 210, 211, 212, 213, 214, 215, 216, 217, 218, 219, 220, 221, 222, 223, 224, 225, 226, 227, 228, 229, 230, 231, 232, 233, 234, 235, 236, 237, 238, 239, 240, 241, 242, 243, 244, 245, 246, 247, 248, 249, 250, 251, 252, 253, 254, 255, 256, 257, 258, 259, 260, 261, 262, 263, 264, 265, 266, 267, 268, 269, 270, 271, 272, 273, 274, 275, 276, 277, 278, 279, 280, 281, 282, 283, 284, 285, 286, 287, 288, 289, 290, 291, 292, 293, 294, 295, 296, 297, 298, 299, 300, 301, 302, 303, 304, 305, 306, 307, 308, 309, 310, 311, 312, 313, 314, 315, 316, 317, 318, 319, 320, 321, 322, 323, 343, 344, 345, 346, 347, 348, 349, 350, 351, 352, 353, 354, 355, 356, 357, 358, 359, 360, 361] (by decide +kernel) (by decide +kernel)) (goodIn_sub (fun _ h => List.mem_cons_of_mem _ (List.mem_append_left _ (List.mem_append_left _ (List.mem_append_right _ h)))) (by decide +kernel))) (goodIn_sub (fun _ h => List.mem_cons_of_mem _ (List.mem_append_left _ (List.mem_append_right _ h))) (by decide +kernel))) (goodIn_sub (fun _ h => List.mem_cons_of_mem _ (List.mem_append_right _ h)) (by decide +kernel))
set_option maxRecDepth 20000 in
theorem gL_isFinished_L_does : GoodIn wsL_isFinished (va_wsS RL 120 yL_does wsL_does) := goodIn_app (goodIn_of _ (by decide +kernel)) ggL_isFinished_L_does
set_option maxRecDepth 20000 in
theorem ggL_isFinished_L_bits : GoodIn wsL_isFinished wsL_bits := goodIn_r _ [326] (by decide +kernel) (by decide +kernel)
set_option maxRecDepth 20000 in
theorem gL_isFinished_L_bits : GoodIn wsL_isFinished (va_wsS RL 117 yL_bits wsL_bits) := goodIn_app (goodIn_of _ (by decide +kernel)) ggL_isFinished_L_bits
set_option maxRecDepth 20000 in
theorem ggL_isFinished_X1_charge : GoodIn wsL_isFinished wsX1_charge := goodIn_ca (goodIn_r _ [330, 148, 149, 150, 14, 151, 37, 38, 29, 49, 39, 40, 41, 42, 43, 44, 50, 51, 52, 53, 54, 55, 56, 57, 58, 59, 60, 61, 62, 63, 64, 65, 66, 152, 153, 154, 211, 212, 213, 32, 214, 85, 343, 344, 345, 346, 347, 359, 360, 361, 348, 349, 350, 351, 352, 353, 354, 355, 356, 357, 358] (by decide +kernel) (by decide +kernel)) (goodIn_sub (fun _ h => List.mem_cons_of_mem _ (List.mem_append_right _ h)) (by decide +kernel))
set_option maxRecDepth 20000 in
theorem gL_isFinished_X1_charge : GoodIn wsL_isFinished (wsV RL 64 RX1 yX1_charge wsX1_charge) := goodIn_app (goodIn_of _ (by decide +kernel)) ggL_isFinished_X1_charge
set_option maxRecDepth 20000 in
theorem ggL_isFinished_X1_aboard : GoodIn wsL_isFinished wsX1_aboard := goodIn_ca (goodIn_r _ [334, 148, 149, 150, 14, 151, 37, 38, 29, 49, 39, 40, 41, 42, 43, 44, 50, 51, 52, 53, 54, 55, 56, 57, 58, 59, 60, 61, 62, 63, 64, 65, 66, 335, 336, 337, 32, 338, 170, 343, 344, 345, 346, 347, 359, 360, 361, 348, 349, 350, 351, 352, 353, 354, 355, 356, 357, 358] (by decide +kernel) (by decide +kernel)) (goodIn_sub (fun _ h => List.mem_cons_of_mem _ (List.mem_append_right _ h)) (by decide +kernel))
set_option maxRecDepth 20000 in
theorem gL_isFinished_X1_aboard : GoodIn wsL_isFinished (wsV RL 61 RX1 yX1_aboard wsX1_aboard) := goodIn_app (goodIn_of _ (by decide +kernel)) ggL_isFinished_X1_aboard
set_option maxRecDepth 20000 in
theorem ggL_isFinished_X1_isVoid : GoodIn wsL_isFinished wsX1_isVoid := goodIn_ca (goodIn_r _ [342, 148, 149, 150, 14, 151, 37, 38, 29, 49, 39, 40, 41, 42, 43, 44, 50, 51, 52, 53, 54, 55, 56, 57, 58, 59, 60, 61, 62, 63, 64, 65, 66, 309, 310, 311, 32, 312, 85, 261, 86, 76, 163, 164, 165, 343, 344, 345, 346, 347, 359, 360, 361, 348, 349, 350, 351, 352, 353, 354, 355, 356, 357, 358] (by decide +kernel) (by decide +kernel)) (goodIn_sub (fun _ h => List.mem_cons_of_mem _ (List.mem_append_right _ h)) (by decide +kernel))
set_option maxRecDepth 20000 in
theorem gL_isFinished_X1_isVoid : GoodIn wsL_isFinished (wsV RL 67 RX1 yX1_isVoid wsX1_isVoid) := goodIn_app (goodIn_of _ (by decide +kernel)) ggL_isFinished_X1_isVoid
theorem dL_isFinished_0 : decode cL_isFinished 0 = .ok (.iload 4, 2) := by decide +kernel
theorem dL_isFinished_2 : decode cL_isFinished 2 = .ok (.aload_n 3, 1) := by decide +kernel
theorem dL_isFinished_3 : decode cL_isFinished 3 = .ok (.iconst 0, 1) := by decide +kernel
theorem dL_isFinished_4 : decode cL_isFinished 4 = .ok (.iaload, 1) := by decide +kernel
theorem dL_isFinished_5 : decode cL_isFinished 5 = .ok (.if_icmp .ge 14, 3) := by decide +kernel
theorem dL_isFinished_8 : decode cL_isFinished 8 = .ok (.aload_n 1, 1) := by decide +kernel
theorem dL_isFinished_9 : decode cL_isFinished 9 = .ok (.bipush 20, 2) := by decide +kernel
theorem dL_isFinished_11 : decode cL_isFinished 11 = .ok (.iload 4, 2) := by decide +kernel
theorem dL_isFinished_13 : decode cL_isFinished 13 = .ok (.iadd, 1) := by decide +kernel
theorem dL_isFinished_14 : decode cL_isFinished 14 = .ok (.iaload, 1) := by decide +kernel
theorem dL_isFinished_15 : decode cL_isFinished 15 = .ok (.iconst 1, 1) := by decide +kernel
theorem dL_isFinished_16 : decode cL_isFinished 16 = .ok (.if_icmp .ne 38, 3) := by decide +kernel
theorem dL_isFinished_19 : decode cL_isFinished 19 = .ok (.aload_n 0, 1) := by decide +kernel
theorem dL_isFinished_20 : decode cL_isFinished 20 = .ok (.bipush 7, 2) := by decide +kernel
theorem dL_isFinished_22 : decode cL_isFinished 22 = .ok (.iload 4, 2) := by decide +kernel
theorem dL_isFinished_24 : decode cL_isFinished 24 = .ok (.iconst 0, 1) := by decide +kernel
theorem dL_isFinished_25 : decode cL_isFinished 25 = .ok (.iconst 0, 1) := by decide +kernel
theorem dL_isFinished_26 : decode cL_isFinished 26 = .ok (.iconst 0, 1) := by decide +kernel
theorem dL_isFinished_27 : decode cL_isFinished 27 = .ok (.invokestatic 120, 3) := by decide +kernel
theorem dL_isFinished_30 : decode cL_isFinished 30 = .ok (.iload 4, 2) := by decide +kernel
theorem dL_isFinished_32 : decode cL_isFinished 32 = .ok (.aload_n 3, 1) := by decide +kernel
theorem dL_isFinished_33 : decode cL_isFinished 33 = .ok (.iconst 0, 1) := by decide +kernel
theorem dL_isFinished_34 : decode cL_isFinished 34 = .ok (.iaload, 1) := by decide +kernel
theorem dL_isFinished_35 : decode cL_isFinished 35 = .ok (.if_icmp .lt 8, 3) := by decide +kernel
theorem dL_isFinished_38 : decode cL_isFinished 38 = .ok (.bipush (-30), 2) := by decide +kernel
theorem dL_isFinished_40 : decode cL_isFinished 40 = .ok (.goto 5, 3) := by decide +kernel
theorem dL_isFinished_43 : decode cL_isFinished 43 = .ok (.bipush (-10), 2) := by decide +kernel
theorem dL_isFinished_45 : decode cL_isFinished 45 = .ok (.if_icmp .ne 7, 3) := by decide +kernel
theorem dL_isFinished_48 : decode cL_isFinished 48 = .ok (.iconst 1, 1) := by decide +kernel
theorem dL_isFinished_49 : decode cL_isFinished 49 = .ok (.goto 4, 3) := by decide +kernel
theorem dL_isFinished_52 : decode cL_isFinished 52 = .ok (.iconst 0, 1) := by decide +kernel
theorem dL_isFinished_53 : decode cL_isFinished 53 = .ok (.ireturn, 1) := by decide +kernel
theorem dL_isFinished_54 : decode cL_isFinished 54 = .ok (.sipush 400, 3) := by decide +kernel
theorem dL_isFinished_57 : decode cL_isFinished 57 = .ok (.aload_n 2, 1) := by decide +kernel
theorem dL_isFinished_58 : decode cL_isFinished 58 = .ok (.iload 4, 2) := by decide +kernel
theorem dL_isFinished_60 : decode cL_isFinished 60 = .ok (.iaload, 1) := by decide +kernel
theorem dL_isFinished_61 : decode cL_isFinished 61 = .ok (.invokestatic 117, 3) := by decide +kernel
theorem dL_isFinished_64 : decode cL_isFinished 64 = .ok (.imul, 1) := by decide +kernel
theorem dL_isFinished_65 : decode cL_isFinished 65 = .ok (.istore 5, 2) := by decide +kernel
theorem dL_isFinished_67 : decode cL_isFinished 67 = .ok (.iconst 0, 1) := by decide +kernel
theorem dL_isFinished_68 : decode cL_isFinished 68 = .ok (.istore 6, 2) := by decide +kernel
theorem dL_isFinished_70 : decode cL_isFinished 70 = .ok (.iload 6, 2) := by decide +kernel
theorem dL_isFinished_72 : decode cL_isFinished 72 = .ok (.bipush 10, 2) := by decide +kernel
theorem dL_isFinished_74 : decode cL_isFinished 74 = .ok (.if_icmp .ge 22, 3) := by decide +kernel
theorem dL_isFinished_77 : decode cL_isFinished 77 = .ok (.iload 5, 2) := by decide +kernel
theorem dL_isFinished_79 : decode cL_isFinished 79 = .ok (.aload_n 0, 1) := by decide +kernel
theorem dL_isFinished_80 : decode cL_isFinished 80 = .ok (.iload 4, 2) := by decide +kernel
theorem dL_isFinished_82 : decode cL_isFinished 82 = .ok (.iload 6, 2) := by decide +kernel
theorem dL_isFinished_84 : decode cL_isFinished 84 = .ok (.invokevirtual 64, 3) := by decide +kernel
theorem dL_isFinished_87 : decode cL_isFinished 87 = .ok (.iadd, 1) := by decide +kernel
theorem dL_isFinished_88 : decode cL_isFinished 88 = .ok (.istore 5, 2) := by decide +kernel
theorem dL_isFinished_90 : decode cL_isFinished 90 = .ok (.iinc 6 1, 3) := by decide +kernel
theorem dL_isFinished_93 : decode cL_isFinished 93 = .ok (.goto (-23), 3) := by decide +kernel
theorem dL_isFinished_96 : decode cL_isFinished 96 = .ok (.aload_n 2, 1) := by decide +kernel
theorem dL_isFinished_97 : decode cL_isFinished 97 = .ok (.iload 4, 2) := by decide +kernel
theorem dL_isFinished_99 : decode cL_isFinished 99 = .ok (.iconst 0, 1) := by decide +kernel
theorem dL_isFinished_100 : decode cL_isFinished 100 = .ok (.iastore, 1) := by decide +kernel
theorem dL_isFinished_101 : decode cL_isFinished 101 = .ok (.aload_n 1, 1) := by decide +kernel
theorem dL_isFinished_102 : decode cL_isFinished 102 = .ok (.bipush 20, 2) := by decide +kernel
theorem dL_isFinished_104 : decode cL_isFinished 104 = .ok (.iload 4, 2) := by decide +kernel
theorem dL_isFinished_106 : decode cL_isFinished 106 = .ok (.iadd, 1) := by decide +kernel
theorem dL_isFinished_107 : decode cL_isFinished 107 = .ok (.iconst 1, 1) := by decide +kernel
theorem dL_isFinished_108 : decode cL_isFinished 108 = .ok (.iastore, 1) := by decide +kernel
theorem dL_isFinished_109 : decode cL_isFinished 109 = .ok (.aload_n 0, 1) := by decide +kernel
theorem dL_isFinished_110 : decode cL_isFinished 110 = .ok (.bipush 7, 2) := by decide +kernel
theorem dL_isFinished_112 : decode cL_isFinished 112 = .ok (.iload 4, 2) := by decide +kernel
theorem dL_isFinished_114 : decode cL_isFinished 114 = .ok (.iconst 0, 1) := by decide +kernel
theorem dL_isFinished_115 : decode cL_isFinished 115 = .ok (.iconst 0, 1) := by decide +kernel
theorem dL_isFinished_116 : decode cL_isFinished 116 = .ok (.iconst 0, 1) := by decide +kernel
theorem dL_isFinished_117 : decode cL_isFinished 117 = .ok (.invokestatic 120, 3) := by decide +kernel
theorem dL_isFinished_120 : decode cL_isFinished 120 = .ok (.iload 5, 2) := by decide +kernel
theorem dL_isFinished_122 : decode cL_isFinished 122 = .ok (.if_icmp .ne 25, 3) := by decide +kernel
theorem dL_isFinished_125 : decode cL_isFinished 125 = .ok (.aload_n 0, 1) := by decide +kernel
theorem dL_isFinished_126 : decode cL_isFinished 126 = .ok (.iload 4, 2) := by decide +kernel
theorem dL_isFinished_128 : decode cL_isFinished 128 = .ok (.invokevirtual 61, 3) := by decide +kernel
theorem dL_isFinished_131 : decode cL_isFinished 131 = .ok (.ifCond .ne 16, 3) := by decide +kernel
theorem dL_isFinished_134 : decode cL_isFinished 134 = .ok (.aload_n 0, 1) := by decide +kernel
theorem dL_isFinished_135 : decode cL_isFinished 135 = .ok (.iload 4, 2) := by decide +kernel
theorem dL_isFinished_137 : decode cL_isFinished 137 = .ok (.invokevirtual 67, 3) := by decide +kernel
theorem dL_isFinished_140 : decode cL_isFinished 140 = .ok (.ifCond .ne 7, 3) := by decide +kernel
theorem dL_isFinished_143 : decode cL_isFinished 143 = .ok (.iconst 1, 1) := by decide +kernel
theorem dL_isFinished_144 : decode cL_isFinished 144 = .ok (.goto 4, 3) := by decide +kernel
theorem dL_isFinished_147 : decode cL_isFinished 147 = .ok (.iconst 0, 1) := by decide +kernel
theorem dL_isFinished_148 : decode cL_isFinished 148 = .ok (.ireturn, 1) := by decide +kernel
set_option maxRecDepth 20000 in
theorem ggL_isDisputed_L_does : GoodIn wsL_isDisputed wsL_does := goodIn_ca (goodIn_ca (goodIn_ca (goodIn_r _ [5, 6, 7, 8, 9, 10, 4, 11, 12, 13, 14, 15, 16, 17, 18, 19, 20, 21, 22, 23, 24, 25, 26, 27, 28, 29, 30, 31, 32, 33, 34, 35, 36, 37, 38, 39, 40, 41, 42, 43, 44, 45, 46, 47, 48, 49, 50, 51, 52, 53, 54, 55, 56, 57, 58, 59, 60, 61, 62, 63, 64, 65, 66, 67, 68, 69, 70, 71, 72, 73, 74, 75, 76, 77, 78, 79, 80, 81, 82, 83, 84, 85, 86, 87, 88, 89, 90, 91, 92, 93, 94, 95, 96, 97, 98, 99, 100, 101, 102, 103, 104, 105, 106, 107, 108, 109, 110, 111, 112, 113, 114, 115, 116, 117, 118, 119, 120, 121, 122, 123, 124, 125, 126, 127, 128, 129, 130, 131, 132, 133, 134, 135, 136, 137, 138, 139, 140, 141, 142, 143, 144, 145, 146, 147, 148, 149, 150, 151, 152, 153, 154, 155, 156, 157, 158, 159, 160, 161, 162, 163, 164, 165, 166, 167, 168, 169, 170, 171, 172, 173, 174, 175, 176, 177, 178, 179, 180, 181, 182, 183, 184, 185, 186, 187, 188, 189, 190, 191, 192, 193, 194, 195, 196, 197, 198, 199, 200, 201, 202, 203, 204, 205, 206, 207, 208, 209, 210, 211, 212, 213, 214, 215, 216, 217, 218, 219, 220, 221, 222, 223, 224, 225, 226, 227, 228, 229, 230, 231, 232, 233, 234, 235, 236, 237, 238, 239, 240, 241, 242, 243, 244, 245, 246, 247, 248, 249, 250, 251, 252, 253, 254, 255, 256, 257, 258, 259, 260, 261, 262, 263, 264, 265, 266, 267, 268, 269, 270, 271, 272, 273, 274, 275, 276, 277, 278, 279, 280, 281, 282, 283, 284, 285, 286, 287, 288, 289, 290, 291, 292, 293, 294, 295, 296, 297, 298, 299, 300, 301, 302, 303, 304, 305, 306, 307, 308, 309, 310, 311, 312, 313, 314, 315, 316, 317, 318, 319, 320, 321, 322, 323, 324, 345, 346, 347, 348, 349, 350, 351, 352, 353, 354, 355, 356, 357, 358, 359, 360, 361, 362, 363] (by decide +kernel) (by decide +kernel)) (goodIn_sub (fun _ h => List.mem_cons_of_mem _ (List.mem_append_left _ (List.mem_append_left _ (List.mem_append_right _ h)))) (by decide +kernel))) (goodIn_sub (fun _ h => List.mem_cons_of_mem _ (List.mem_append_left _ (List.mem_append_right _ h))) (by decide +kernel))) (goodIn_sub (fun _ h => List.mem_cons_of_mem _ (List.mem_append_right _ h)) (by decide +kernel))
set_option maxRecDepth 20000 in
theorem gL_isDisputed_L_does : GoodIn wsL_isDisputed (va_wsS RL 120 yL_does wsL_does) := goodIn_app (goodIn_of _ (by decide +kernel)) ggL_isDisputed_L_does
set_option maxRecDepth 20000 in
theorem ggL_isDisputed_X1_charge : GoodIn wsL_isDisputed wsX1_charge := goodIn_ca (goodIn_r _ [328, 149, 150, 151, 15, 152, 38, 39, 30, 50, 40, 41, 42, 43, 44, 45, 51, 52, 53, 54, 55, 56, 57, 58, 59, 60, 61, 62, 63, 64, 65, 66, 67, 153, 154, 155, 212, 213, 214, 33, 215, 86, 345, 346, 347, 348, 349, 361, 362, 363, 350, 351, 352, 353, 354, 355, 356, 357, 358, 359, 360] (by decide +kernel) (by decide +kernel)) (goodIn_sub (fun _ h => List.mem_cons_of_mem _ (List.mem_append_right _ h)) (by decide +kernel))
set_option maxRecDepth 20000 in
theorem gL_isDisputed_X1_charge : GoodIn wsL_isDisputed (wsV RL 64 RX1 yX1_charge wsX1_charge) := goodIn_app (goodIn_of _ (by decide +kernel)) ggL_isDisputed_X1_charge
set_option maxRecDepth 20000 in
theorem ggL_isDisputed_X1_house : GoodIn wsL_isDisputed wsX1_house := goodIn_r _ [332, 30, 50, 34, 40, 41, 42, 43, 44, 45, 51, 52, 53, 54, 55, 56, 57, 58, 59, 60, 61, 62, 63, 64, 65, 66, 67, 73, 74, 75, 33, 76, 77, 232, 233, 234, 235, 86, 333, 334, 335, 336, 87, 277, 278, 279, 15, 280, 281, 282, 283, 284, 285, 286, 287, 288, 289, 290, 291, 292, 72, 84, 293, 294, 295, 296, 297, 298, 299, 300, 262, 164, 165, 166, 301, 302, 303, 304, 305, 108, 109, 110, 306, 307, 308, 309, 310, 311, 312, 313, 314, 315, 316, 317, 195, 318, 319, 320, 321, 322, 323, 324, 345, 346, 347, 348, 349, 361, 362, 363, 350, 351, 352, 353, 354, 355, 356, 357, 358, 359, 360] (by decide +kernel) (by decide +kernel)
set_option maxRecDepth 20000 in
theorem gL_isDisputed_X1_house : GoodIn wsL_isDisputed (wsV RL 100 RX1 yX1_house wsX1_house) := goodIn_app (goodIn_of _ (by decide +kernel)) ggL_isDisputed_X1_house
set_option maxRecDepth 20000 in
theorem ggL_isDisputed_X1_spent : GoodIn wsL_isDisputed wsX1_spent := goodIn_ca (goodIn_r _ [340, 30, 50, 153, 154, 15, 155, 38, 39, 40, 41, 42, 43, 44, 45, 51, 52, 53, 54, 55, 56, 57, 58, 59, 60, 61, 62, 63, 64, 65, 66, 67, 73, 74, 75, 33, 76, 77, 212, 213, 214, 215, 86, 341, 342, 343, 344, 87, 345, 346, 347, 348, 349, 361, 362, 363, 350, 351, 352, 353, 354, 355, 356, 357, 358, 359, 360] (by decide +kernel) (by decide +kernel)) (goodIn_sub (fun _ h => List.mem_cons_of_mem _ (List.mem_append_right _ h)) (by decide +kernel))
set_option maxRecDepth 20000 in
theorem gL_isDisputed_X1_spent : GoodIn wsL_isDisputed (wsV RL 89 RX1 yX1_spent wsX1_spent) := goodIn_app (goodIn_of _ (by decide +kernel)) ggL_isDisputed_X1_spent
theorem dL_isDisputed_0 : decode cL_isDisputed 0 = .ok (.iload 5, 2) := by decide +kernel
theorem dL_isDisputed_2 : decode cL_isDisputed 2 = .ok (.aload 4, 2) := by decide +kernel
theorem dL_isDisputed_4 : decode cL_isDisputed 4 = .ok (.iconst 0, 1) := by decide +kernel
theorem dL_isDisputed_5 : decode cL_isDisputed 5 = .ok (.iaload, 1) := by decide +kernel
theorem dL_isDisputed_6 : decode cL_isDisputed 6 = .ok (.if_icmp .ge 10, 3) := by decide +kernel
theorem dL_isDisputed_9 : decode cL_isDisputed 9 = .ok (.iload 6, 2) := by decide +kernel
theorem dL_isDisputed_11 : decode cL_isDisputed 11 = .ok (.bipush 9, 2) := by decide +kernel
theorem dL_isDisputed_13 : decode cL_isDisputed 13 = .ok (.if_icmp .le 44, 3) := by decide +kernel
theorem dL_isDisputed_16 : decode cL_isDisputed 16 = .ok (.aload_n 0, 1) := by decide +kernel
theorem dL_isDisputed_17 : decode cL_isDisputed 17 = .ok (.bipush 8, 2) := by decide +kernel
theorem dL_isDisputed_19 : decode cL_isDisputed 19 = .ok (.iload 5, 2) := by decide +kernel
theorem dL_isDisputed_21 : decode cL_isDisputed 21 = .ok (.iload 6, 2) := by decide +kernel
theorem dL_isDisputed_23 : decode cL_isDisputed 23 = .ok (.iconst 0, 1) := by decide +kernel
theorem dL_isDisputed_24 : decode cL_isDisputed 24 = .ok (.iconst 0, 1) := by decide +kernel
theorem dL_isDisputed_25 : decode cL_isDisputed 25 = .ok (.invokestatic 120, 3) := by decide +kernel
theorem dL_isDisputed_28 : decode cL_isDisputed 28 = .ok (.bipush (-30), 2) := by decide +kernel
theorem dL_isDisputed_30 : decode cL_isDisputed 30 = .ok (.if_icmp .ne 25, 3) := by decide +kernel
theorem dL_isDisputed_33 : decode cL_isDisputed 33 = .ok (.aload_n 0, 1) := by decide +kernel
theorem dL_isDisputed_34 : decode cL_isDisputed 34 = .ok (.bipush 9, 2) := by decide +kernel
theorem dL_isDisputed_36 : decode cL_isDisputed 36 = .ok (.iload 5, 2) := by decide +kernel
theorem dL_isDisputed_38 : decode cL_isDisputed 38 = .ok (.iload 6, 2) := by decide +kernel
theorem dL_isDisputed_40 : decode cL_isDisputed 40 = .ok (.bipush 101, 2) := by decide +kernel
theorem dL_isDisputed_42 : decode cL_isDisputed 42 = .ok (.iconst 0, 1) := by decide +kernel
theorem dL_isDisputed_43 : decode cL_isDisputed 43 = .ok (.invokestatic 120, 3) := by decide +kernel
theorem dL_isDisputed_46 : decode cL_isDisputed 46 = .ok (.bipush (-30), 2) := by decide +kernel
theorem dL_isDisputed_48 : decode cL_isDisputed 48 = .ok (.if_icmp .ne 7, 3) := by decide +kernel
theorem dL_isDisputed_51 : decode cL_isDisputed 51 = .ok (.iconst 1, 1) := by decide +kernel
theorem dL_isDisputed_52 : decode cL_isDisputed 52 = .ok (.goto 4, 3) := by decide +kernel
theorem dL_isDisputed_55 : decode cL_isDisputed 55 = .ok (.iconst 0, 1) := by decide +kernel
theorem dL_isDisputed_56 : decode cL_isDisputed 56 = .ok (.ireturn, 1) := by decide +kernel
theorem dL_isDisputed_57 : decode cL_isDisputed 57 = .ok (.aload_n 0, 1) := by decide +kernel
theorem dL_isDisputed_58 : decode cL_isDisputed 58 = .ok (.iload 5, 2) := by decide +kernel
theorem dL_isDisputed_60 : decode cL_isDisputed 60 = .ok (.iload 6, 2) := by decide +kernel
theorem dL_isDisputed_62 : decode cL_isDisputed 62 = .ok (.invokevirtual 64, 3) := by decide +kernel
theorem dL_isDisputed_65 : decode cL_isDisputed 65 = .ok (.istore 9, 2) := by decide +kernel
theorem dL_isDisputed_67 : decode cL_isDisputed 67 = .ok (.aload_n 2, 1) := by decide +kernel
theorem dL_isDisputed_68 : decode cL_isDisputed 68 = .ok (.iload 5, 2) := by decide +kernel
theorem dL_isDisputed_70 : decode cL_isDisputed 70 = .ok (.iaload, 1) := by decide +kernel
theorem dL_isDisputed_71 : decode cL_isDisputed 71 = .ok (.iload 6, 2) := by decide +kernel
theorem dL_isDisputed_73 : decode cL_isDisputed 73 = .ok (.ishr, 1) := by decide +kernel
theorem dL_isDisputed_74 : decode cL_isDisputed 74 = .ok (.iconst 1, 1) := by decide +kernel
theorem dL_isDisputed_75 : decode cL_isDisputed 75 = .ok (.iand, 1) := by decide +kernel
theorem dL_isDisputed_76 : decode cL_isDisputed 76 = .ok (.iconst 1, 1) := by decide +kernel
theorem dL_isDisputed_77 : decode cL_isDisputed 77 = .ok (.if_icmp .ne 7, 3) := by decide +kernel
theorem dL_isDisputed_80 : decode cL_isDisputed 80 = .ok (.iconst 1, 1) := by decide +kernel
theorem dL_isDisputed_81 : decode cL_isDisputed 81 = .ok (.goto 4, 3) := by decide +kernel
theorem dL_isDisputed_84 : decode cL_isDisputed 84 = .ok (.iconst 0, 1) := by decide +kernel
theorem dL_isDisputed_85 : decode cL_isDisputed 85 = .ok (.istore 10, 2) := by decide +kernel
theorem dL_isDisputed_87 : decode cL_isDisputed 87 = .ok (.aload_n 2, 1) := by decide +kernel
theorem dL_isDisputed_88 : decode cL_isDisputed 88 = .ok (.iload 5, 2) := by decide +kernel
theorem dL_isDisputed_90 : decode cL_isDisputed 90 = .ok (.iaload, 1) := by decide +kernel
theorem dL_isDisputed_91 : decode cL_isDisputed 91 = .ok (.iload 6, 2) := by decide +kernel
theorem dL_isDisputed_93 : decode cL_isDisputed 93 = .ok (.bipush 10, 2) := by decide +kernel
theorem dL_isDisputed_95 : decode cL_isDisputed 95 = .ok (.iadd, 1) := by decide +kernel
theorem dL_isDisputed_96 : decode cL_isDisputed 96 = .ok (.ishr, 1) := by decide +kernel
theorem dL_isDisputed_97 : decode cL_isDisputed 97 = .ok (.iconst 1, 1) := by decide +kernel
theorem dL_isDisputed_98 : decode cL_isDisputed 98 = .ok (.iand, 1) := by decide +kernel
theorem dL_isDisputed_99 : decode cL_isDisputed 99 = .ok (.iconst 1, 1) := by decide +kernel
theorem dL_isDisputed_100 : decode cL_isDisputed 100 = .ok (.if_icmp .ne 7, 3) := by decide +kernel
theorem dL_isDisputed_103 : decode cL_isDisputed 103 = .ok (.iconst 1, 1) := by decide +kernel
theorem dL_isDisputed_104 : decode cL_isDisputed 104 = .ok (.goto 4, 3) := by decide +kernel
theorem dL_isDisputed_107 : decode cL_isDisputed 107 = .ok (.iconst 0, 1) := by decide +kernel
theorem dL_isDisputed_108 : decode cL_isDisputed 108 = .ok (.istore 11, 2) := by decide +kernel
theorem dL_isDisputed_110 : decode cL_isDisputed 110 = .ok (.iload 10, 2) := by decide +kernel
theorem dL_isDisputed_112 : decode cL_isDisputed 112 = .ok (.ifCond .eq 8, 3) := by decide +kernel
theorem dL_isDisputed_115 : decode cL_isDisputed 115 = .ok (.iload 11, 2) := by decide +kernel
theorem dL_isDisputed_117 : decode cL_isDisputed 117 = .ok (.ifCond .eq 119, 3) := by decide +kernel
theorem dL_isDisputed_120 : decode cL_isDisputed 120 = .ok (.aload_n 1, 1) := by decide +kernel
theorem dL_isDisputed_121 : decode cL_isDisputed 121 = .ok (.bipush 20, 2) := by decide +kernel
theorem dL_isDisputed_123 : decode cL_isDisputed 123 = .ok (.iload 5, 2) := by decide +kernel
theorem dL_isDisputed_125 : decode cL_isDisputed 125 = .ok (.iadd, 1) := by decide +kernel
theorem dL_isDisputed_126 : decode cL_isDisputed 126 = .ok (.iaload, 1) := by decide +kernel
theorem dL_isDisputed_127 : decode cL_isDisputed 127 = .ok (.iconst 1, 1) := by decide +kernel
theorem dL_isDisputed_128 : decode cL_isDisputed 128 = .ok (.if_icmp .ne 17, 3) := by decide +kernel
theorem dL_isDisputed_131 : decode cL_isDisputed 131 = .ok (.iload 9, 2) := by decide +kernel
theorem dL_isDisputed_133 : decode cL_isDisputed 133 = .ok (.ifCond .le 12, 3) := by decide +kernel
theorem dL_isDisputed_136 : decode cL_isDisputed 136 = .ok (.iload 11, 2) := by decide +kernel
theorem dL_isDisputed_138 : decode cL_isDisputed 138 = .ok (.ifCond .ne 7, 3) := by decide +kernel
theorem dL_isDisputed_141 : decode cL_isDisputed 141 = .ok (.iconst 1, 1) := by decide +kernel
theorem dL_isDisputed_142 : decode cL_isDisputed 142 = .ok (.goto 4, 3) := by decide +kernel
theorem dL_isDisputed_145 : decode cL_isDisputed 145 = .ok (.iconst 0, 1) := by decide +kernel
theorem dL_isDisputed_146 : decode cL_isDisputed 146 = .ok (.istore 12, 2) := by decide +kernel
theorem dL_isDisputed_148 : decode cL_isDisputed 148 = .ok (.aload_n 2, 1) := by decide +kernel
theorem dL_isDisputed_149 : decode cL_isDisputed 149 = .ok (.iload 5, 2) := by decide +kernel
theorem dL_isDisputed_151 : decode cL_isDisputed 151 = .ok (.dup2, 1) := by decide +kernel
theorem dL_isDisputed_152 : decode cL_isDisputed 152 = .ok (.iaload, 1) := by decide +kernel
theorem dL_isDisputed_153 : decode cL_isDisputed 153 = .ok (.iload 12, 2) := by decide +kernel
theorem dL_isDisputed_155 : decode cL_isDisputed 155 = .ok (.ifCond .eq 10, 3) := by decide +kernel
theorem dL_isDisputed_158 : decode cL_isDisputed 158 = .ok (.iconst 1, 1) := by decide +kernel
theorem dL_isDisputed_159 : decode cL_isDisputed 159 = .ok (.iload 6, 2) := by decide +kernel
theorem dL_isDisputed_161 : decode cL_isDisputed 161 = .ok (.ishl, 1) := by decide +kernel
theorem dL_isDisputed_162 : decode cL_isDisputed 162 = .ok (.goto 4, 3) := by decide +kernel
theorem dL_isDisputed_165 : decode cL_isDisputed 165 = .ok (.iconst 0, 1) := by decide +kernel
theorem dL_isDisputed_166 : decode cL_isDisputed 166 = .ok (.ior, 1) := by decide +kernel
theorem dL_isDisputed_167 : decode cL_isDisputed 167 = .ok (.iastore, 1) := by decide +kernel
theorem dL_isDisputed_168 : decode cL_isDisputed 168 = .ok (.aload 4, 2) := by decide +kernel
theorem dL_isDisputed_170 : decode cL_isDisputed 170 = .ok (.iconst 4, 1) := by decide +kernel
theorem dL_isDisputed_171 : decode cL_isDisputed 171 = .ok (.dup2, 1) := by decide +kernel
theorem dL_isDisputed_172 : decode cL_isDisputed 172 = .ok (.iaload, 1) := by decide +kernel
theorem dL_isDisputed_173 : decode cL_isDisputed 173 = .ok (.iload 12, 2) := by decide +kernel
theorem dL_isDisputed_175 : decode cL_isDisputed 175 = .ok (.ifCond .eq 7, 3) := by decide +kernel
theorem dL_isDisputed_178 : decode cL_isDisputed 178 = .ok (.iconst 1, 1) := by decide +kernel
theorem dL_isDisputed_179 : decode cL_isDisputed 179 = .ok (.goto 4, 3) := by decide +kernel
theorem dL_isDisputed_182 : decode cL_isDisputed 182 = .ok (.iconst 0, 1) := by decide +kernel
theorem dL_isDisputed_183 : decode cL_isDisputed 183 = .ok (.iadd, 1) := by decide +kernel
theorem dL_isDisputed_184 : decode cL_isDisputed 184 = .ok (.iastore, 1) := by decide +kernel
theorem dL_isDisputed_185 : decode cL_isDisputed 185 = .ok (.aload_n 0, 1) := by decide +kernel
theorem dL_isDisputed_186 : decode cL_isDisputed 186 = .ok (.bipush 9, 2) := by decide +kernel
theorem dL_isDisputed_188 : decode cL_isDisputed 188 = .ok (.iload 5, 2) := by decide +kernel
theorem dL_isDisputed_190 : decode cL_isDisputed 190 = .ok (.iload 6, 2) := by decide +kernel
theorem dL_isDisputed_192 : decode cL_isDisputed 192 = .ok (.bipush 50, 2) := by decide +kernel
theorem dL_isDisputed_194 : decode cL_isDisputed 194 = .ok (.iconst 0, 1) := by decide +kernel
theorem dL_isDisputed_195 : decode cL_isDisputed 195 = .ok (.invokestatic 120, 3) := by decide +kernel
theorem dL_isDisputed_198 : decode cL_isDisputed 198 = .ok (.bipush (-10), 2) := by decide +kernel
theorem dL_isDisputed_200 : decode cL_isDisputed 200 = .ok (.if_icmp .ne 34, 3) := by decide +kernel
theorem dL_isDisputed_203 : decode cL_isDisputed 203 = .ok (.aload_n 0, 1) := by decide +kernel
theorem dL_isDisputed_204 : decode cL_isDisputed 204 = .ok (.bipush 8, 2) := by decide +kernel
theorem dL_isDisputed_206 : decode cL_isDisputed 206 = .ok (.iload 5, 2) := by decide +kernel
theorem dL_isDisputed_208 : decode cL_isDisputed 208 = .ok (.iload 6, 2) := by decide +kernel
theorem dL_isDisputed_210 : decode cL_isDisputed 210 = .ok (.iconst 0, 1) := by decide +kernel
theorem dL_isDisputed_211 : decode cL_isDisputed 211 = .ok (.iconst 0, 1) := by decide +kernel
theorem dL_isDisputed_212 : decode cL_isDisputed 212 = .ok (.invokestatic 120, 3) := by decide +kernel
theorem dL_isDisputed_215 : decode cL_isDisputed 215 = .ok (.iload 12, 2) := by decide +kernel
theorem dL_isDisputed_217 : decode cL_isDisputed 217 = .ok (.ifCond .eq 8, 3) := by decide +kernel
theorem dL_isDisputed_220 : decode cL_isDisputed 220 = .ok (.iload 9, 2) := by decide +kernel
theorem dL_isDisputed_222 : decode cL_isDisputed 222 = .ok (.goto 5, 3) := by decide +kernel
theorem dL_isDisputed_225 : decode cL_isDisputed 225 = .ok (.bipush (-10), 2) := by decide +kernel
theorem dL_isDisputed_227 : decode cL_isDisputed 227 = .ok (.if_icmp .ne 7, 3) := by decide +kernel
theorem dL_isDisputed_230 : decode cL_isDisputed 230 = .ok (.iconst 1, 1) := by decide +kernel
theorem dL_isDisputed_231 : decode cL_isDisputed 231 = .ok (.goto 4, 3) := by decide +kernel
theorem dL_isDisputed_234 : decode cL_isDisputed 234 = .ok (.iconst 0, 1) := by decide +kernel
theorem dL_isDisputed_235 : decode cL_isDisputed 235 = .ok (.ireturn, 1) := by decide +kernel
theorem dL_isDisputed_236 : decode cL_isDisputed 236 = .ok (.aload_n 0, 1) := by decide +kernel
theorem dL_isDisputed_237 : decode cL_isDisputed 237 = .ok (.invokevirtual 100, 3) := by decide +kernel
theorem dL_isDisputed_240 : decode cL_isDisputed 240 = .ok (.istore 12, 2) := by decide +kernel
theorem dL_isDisputed_242 : decode cL_isDisputed 242 = .ok (.aload_n 0, 1) := by decide +kernel
theorem dL_isDisputed_243 : decode cL_isDisputed 243 = .ok (.iload 6, 2) := by decide +kernel
theorem dL_isDisputed_245 : decode cL_isDisputed 245 = .ok (.invokevirtual 89, 3) := by decide +kernel
theorem dL_isDisputed_248 : decode cL_isDisputed 248 = .ok (.istore 13, 2) := by decide +kernel
theorem dL_isDisputed_250 : decode cL_isDisputed 250 = .ok (.iload 7, 2) := by decide +kernel
theorem dL_isDisputed_252 : decode cL_isDisputed 252 = .ok (.bipush 100, 2) := by decide +kernel
theorem dL_isDisputed_254 : decode cL_isDisputed 254 = .ok (.if_icmp .le 45, 3) := by decide +kernel
theorem dL_isDisputed_257 : decode cL_isDisputed 257 = .ok (.aload_n 0, 1) := by decide +kernel
theorem dL_isDisputed_258 : decode cL_isDisputed 258 = .ok (.bipush 9, 2) := by decide +kernel
theorem dL_isDisputed_260 : decode cL_isDisputed 260 = .ok (.iload 5, 2) := by decide +kernel
theorem dL_isDisputed_262 : decode cL_isDisputed 262 = .ok (.iload 6, 2) := by decide +kernel
theorem dL_isDisputed_264 : decode cL_isDisputed 264 = .ok (.iload 7, 2) := by decide +kernel
theorem dL_isDisputed_266 : decode cL_isDisputed 266 = .ok (.iload 8, 2) := by decide +kernel
theorem dL_isDisputed_268 : decode cL_isDisputed 268 = .ok (.invokestatic 120, 3) := by decide +kernel
theorem dL_isDisputed_271 : decode cL_isDisputed 271 = .ok (.bipush (-20), 2) := by decide +kernel
theorem dL_isDisputed_273 : decode cL_isDisputed 273 = .ok (.if_icmp .ne 24, 3) := by decide +kernel
theorem dL_isDisputed_276 : decode cL_isDisputed 276 = .ok (.aload_n 0, 1) := by decide +kernel
theorem dL_isDisputed_277 : decode cL_isDisputed 277 = .ok (.bipush 8, 2) := by decide +kernel
theorem dL_isDisputed_279 : decode cL_isDisputed 279 = .ok (.iload 5, 2) := by decide +kernel
theorem dL_isDisputed_281 : decode cL_isDisputed 281 = .ok (.iload 6, 2) := by decide +kernel
theorem dL_isDisputed_283 : decode cL_isDisputed 283 = .ok (.iconst 0, 1) := by decide +kernel
theorem dL_isDisputed_284 : decode cL_isDisputed 284 = .ok (.iconst 0, 1) := by decide +kernel
theorem dL_isDisputed_285 : decode cL_isDisputed 285 = .ok (.invokestatic 120, 3) := by decide +kernel
theorem dL_isDisputed_288 : decode cL_isDisputed 288 = .ok (.bipush (-10), 2) := by decide +kernel
theorem dL_isDisputed_290 : decode cL_isDisputed 290 = .ok (.if_icmp .ne 7, 3) := by decide +kernel
theorem dL_isDisputed_293 : decode cL_isDisputed 293 = .ok (.iconst 1, 1) := by decide +kernel
theorem dL_isDisputed_294 : decode cL_isDisputed 294 = .ok (.goto 4, 3) := by decide +kernel
theorem dL_isDisputed_297 : decode cL_isDisputed 297 = .ok (.iconst 0, 1) := by decide +kernel
theorem dL_isDisputed_298 : decode cL_isDisputed 298 = .ok (.ireturn, 1) := by decide +kernel
theorem dL_isDisputed_299 : decode cL_isDisputed 299 = .ok (.aload_n 0, 1) := by decide +kernel
theorem dL_isDisputed_300 : decode cL_isDisputed 300 = .ok (.bipush 9, 2) := by decide +kernel
theorem dL_isDisputed_302 : decode cL_isDisputed 302 = .ok (.iload 5, 2) := by decide +kernel
theorem dL_isDisputed_304 : decode cL_isDisputed 304 = .ok (.iload 6, 2) := by decide +kernel
theorem dL_isDisputed_306 : decode cL_isDisputed 306 = .ok (.iload 7, 2) := by decide +kernel
theorem dL_isDisputed_308 : decode cL_isDisputed 308 = .ok (.iload 8, 2) := by decide +kernel
theorem dL_isDisputed_310 : decode cL_isDisputed 310 = .ok (.invokestatic 120, 3) := by decide +kernel
theorem dL_isDisputed_313 : decode cL_isDisputed 313 = .ok (.istore 14, 2) := by decide +kernel
theorem dL_isDisputed_315 : decode cL_isDisputed 315 = .ok (.aload_n 2, 1) := by decide +kernel
theorem dL_isDisputed_316 : decode cL_isDisputed 316 = .ok (.iload 5, 2) := by decide +kernel
theorem dL_isDisputed_318 : decode cL_isDisputed 318 = .ok (.dup2, 1) := by decide +kernel
theorem dL_isDisputed_319 : decode cL_isDisputed 319 = .ok (.iaload, 1) := by decide +kernel
theorem dL_isDisputed_320 : decode cL_isDisputed 320 = .ok (.iconst 1, 1) := by decide +kernel
theorem dL_isDisputed_321 : decode cL_isDisputed 321 = .ok (.iload 6, 2) := by decide +kernel
theorem dL_isDisputed_323 : decode cL_isDisputed 323 = .ok (.bipush 10, 2) := by decide +kernel
theorem dL_isDisputed_325 : decode cL_isDisputed 325 = .ok (.iadd, 1) := by decide +kernel
theorem dL_isDisputed_326 : decode cL_isDisputed 326 = .ok (.ishl, 1) := by decide +kernel
theorem dL_isDisputed_327 : decode cL_isDisputed 327 = .ok (.ior, 1) := by decide +kernel
theorem dL_isDisputed_328 : decode cL_isDisputed 328 = .ok (.iastore, 1) := by decide +kernel
theorem dL_isDisputed_329 : decode cL_isDisputed 329 = .ok (.aload_n 3, 1) := by decide +kernel
theorem dL_isDisputed_330 : decode cL_isDisputed 330 = .ok (.iload 6, 2) := by decide +kernel
theorem dL_isDisputed_332 : decode cL_isDisputed 332 = .ok (.dup2, 1) := by decide +kernel
theorem dL_isDisputed_333 : decode cL_isDisputed 333 = .ok (.iaload, 1) := by decide +kernel
theorem dL_isDisputed_334 : decode cL_isDisputed 334 = .ok (.iload 14, 2) := by decide +kernel
theorem dL_isDisputed_336 : decode cL_isDisputed 336 = .ok (.iadd, 1) := by decide +kernel
theorem dL_isDisputed_337 : decode cL_isDisputed 337 = .ok (.iastore, 1) := by decide +kernel
theorem dL_isDisputed_338 : decode cL_isDisputed 338 = .ok (.aload 4, 2) := by decide +kernel
theorem dL_isDisputed_340 : decode cL_isDisputed 340 = .ok (.iconst 4, 1) := by decide +kernel
theorem dL_isDisputed_341 : decode cL_isDisputed 341 = .ok (.dup2, 1) := by decide +kernel
theorem dL_isDisputed_342 : decode cL_isDisputed 342 = .ok (.iaload, 1) := by decide +kernel
theorem dL_isDisputed_343 : decode cL_isDisputed 343 = .ok (.iconst 1, 1) := by decide +kernel
theorem dL_isDisputed_344 : decode cL_isDisputed 344 = .ok (.isub, 1) := by decide +kernel
theorem dL_isDisputed_345 : decode cL_isDisputed 345 = .ok (.iastore, 1) := by decide +kernel
theorem dL_isDisputed_346 : decode cL_isDisputed 346 = .ok (.iload 14, 2) := by decide +kernel
theorem dL_isDisputed_348 : decode cL_isDisputed 348 = .ok (.ifCond .lt 78, 3) := by decide +kernel
theorem dL_isDisputed_351 : decode cL_isDisputed 351 = .ok (.iload 14, 2) := by decide +kernel
theorem dL_isDisputed_353 : decode cL_isDisputed 353 = .ok (.iload 9, 2) := by decide +kernel
theorem dL_isDisputed_355 : decode cL_isDisputed 355 = .ok (.if_icmp .gt 71, 3) := by decide +kernel
theorem dL_isDisputed_358 : decode cL_isDisputed 358 = .ok (.iload 7, 2) := by decide +kernel
theorem dL_isDisputed_360 : decode cL_isDisputed 360 = .ok (.bipush 100, 2) := by decide +kernel
theorem dL_isDisputed_362 : decode cL_isDisputed 362 = .ok (.if_icmp .lt 10, 3) := by decide +kernel
theorem dL_isDisputed_365 : decode cL_isDisputed 365 = .ok (.iload 14, 2) := by decide +kernel
theorem dL_isDisputed_367 : decode cL_isDisputed 367 = .ok (.iload 9, 2) := by decide +kernel
theorem dL_isDisputed_369 : decode cL_isDisputed 369 = .ok (.if_icmp .ne 57, 3) := by decide +kernel
theorem dL_isDisputed_372 : decode cL_isDisputed 372 = .ok (.iload 7, 2) := by decide +kernel
theorem dL_isDisputed_374 : decode cL_isDisputed 374 = .ok (.ifCond .gt 8, 3) := by decide +kernel
theorem dL_isDisputed_377 : decode cL_isDisputed 377 = .ok (.iload 14, 2) := by decide +kernel
theorem dL_isDisputed_379 : decode cL_isDisputed 379 = .ok (.ifCond .ne 47, 3) := by decide +kernel
theorem dL_isDisputed_382 : decode cL_isDisputed 382 = .ok (.iload 14, 2) := by decide +kernel
theorem dL_isDisputed_384 : decode cL_isDisputed 384 = .ok (.i2l, 1) := by decide +kernel
theorem dL_isDisputed_385 : decode cL_isDisputed 385 = .ok (.ldc2_w 125, 3) := by decide +kernel
theorem dL_isDisputed_388 : decode cL_isDisputed 388 = .ok (.lmul, 1) := by decide +kernel
theorem dL_isDisputed_389 : decode cL_isDisputed 389 = .ok (.iload 9, 2) := by decide +kernel
theorem dL_isDisputed_391 : decode cL_isDisputed 391 = .ok (.i2l, 1) := by decide +kernel
theorem dL_isDisputed_392 : decode cL_isDisputed 392 = .ok (.iload 7, 2) := by decide +kernel
theorem dL_isDisputed_394 : decode cL_isDisputed 394 = .ok (.i2l, 1) := by decide +kernel
theorem dL_isDisputed_395 : decode cL_isDisputed 395 = .ok (.lmul, 1) := by decide +kernel
theorem dL_isDisputed_396 : decode cL_isDisputed 396 = .ok (.lcmp, 1) := by decide +kernel
theorem dL_isDisputed_397 : decode cL_isDisputed 397 = .ok (.ifCond .gt 29, 3) := by decide +kernel
theorem dL_isDisputed_400 : decode cL_isDisputed 400 = .ok (.iload 14, 2) := by decide +kernel
theorem dL_isDisputed_402 : decode cL_isDisputed 402 = .ok (.i2l, 1) := by decide +kernel
theorem dL_isDisputed_403 : decode cL_isDisputed 403 = .ok (.ldc2_w 125, 3) := by decide +kernel
theorem dL_isDisputed_406 : decode cL_isDisputed 406 = .ok (.lmul, 1) := by decide +kernel
theorem dL_isDisputed_407 : decode cL_isDisputed 407 = .ok (.iload 9, 2) := by decide +kernel
theorem dL_isDisputed_409 : decode cL_isDisputed 409 = .ok (.i2l, 1) := by decide +kernel
theorem dL_isDisputed_410 : decode cL_isDisputed 410 = .ok (.iload 7, 2) := by decide +kernel
theorem dL_isDisputed_412 : decode cL_isDisputed 412 = .ok (.i2l, 1) := by decide +kernel
theorem dL_isDisputed_413 : decode cL_isDisputed 413 = .ok (.lmul, 1) := by decide +kernel
theorem dL_isDisputed_414 : decode cL_isDisputed 414 = .ok (.ldc2_w 125, 3) := by decide +kernel
theorem dL_isDisputed_417 : decode cL_isDisputed 417 = .ok (.lsub, 1) := by decide +kernel
theorem dL_isDisputed_418 : decode cL_isDisputed 418 = .ok (.lcmp, 1) := by decide +kernel
theorem dL_isDisputed_419 : decode cL_isDisputed 419 = .ok (.ifCond .le 7, 3) := by decide +kernel
theorem dL_isDisputed_422 : decode cL_isDisputed 422 = .ok (.iconst 1, 1) := by decide +kernel
theorem dL_isDisputed_423 : decode cL_isDisputed 423 = .ok (.goto 4, 3) := by decide +kernel
theorem dL_isDisputed_426 : decode cL_isDisputed 426 = .ok (.iconst 0, 1) := by decide +kernel
theorem dL_isDisputed_427 : decode cL_isDisputed 427 = .ok (.istore 15, 2) := by decide +kernel
theorem dL_isDisputed_429 : decode cL_isDisputed 429 = .ok (.iload 15, 2) := by decide +kernel
theorem dL_isDisputed_431 : decode cL_isDisputed 431 = .ok (.ifCond .eq 68, 3) := by decide +kernel
theorem dL_isDisputed_434 : decode cL_isDisputed 434 = .ok (.aload_n 0, 1) := by decide +kernel
theorem dL_isDisputed_435 : decode cL_isDisputed 435 = .ok (.iload 6, 2) := by decide +kernel
theorem dL_isDisputed_437 : decode cL_isDisputed 437 = .ok (.invokevirtual 89, 3) := by decide +kernel
theorem dL_isDisputed_440 : decode cL_isDisputed 440 = .ok (.iload 13, 2) := by decide +kernel
theorem dL_isDisputed_442 : decode cL_isDisputed 442 = .ok (.iload 14, 2) := by decide +kernel
theorem dL_isDisputed_444 : decode cL_isDisputed 444 = .ok (.isub, 1) := by decide +kernel
theorem dL_isDisputed_445 : decode cL_isDisputed 445 = .ok (.if_icmp .ne 54, 3) := by decide +kernel
theorem dL_isDisputed_448 : decode cL_isDisputed 448 = .ok (.iload 8, 2) := by decide +kernel
theorem dL_isDisputed_450 : decode cL_isDisputed 450 = .ok (.ifCond .ne 15, 3) := by decide +kernel
theorem dL_isDisputed_453 : decode cL_isDisputed 453 = .ok (.aload_n 0, 1) := by decide +kernel
theorem dL_isDisputed_454 : decode cL_isDisputed 454 = .ok (.invokevirtual 100, 3) := by decide +kernel
theorem dL_isDisputed_457 : decode cL_isDisputed 457 = .ok (.iload 12, 2) := by decide +kernel
theorem dL_isDisputed_459 : decode cL_isDisputed 459 = .ok (.iload 14, 2) := by decide +kernel
theorem dL_isDisputed_461 : decode cL_isDisputed 461 = .ok (.isub, 1) := by decide +kernel
theorem dL_isDisputed_462 : decode cL_isDisputed 462 = .ok (.if_icmp .ne 37, 3) := by decide +kernel
theorem dL_isDisputed_465 : decode cL_isDisputed 465 = .ok (.aload_n 0, 1) := by decide +kernel
theorem dL_isDisputed_466 : decode cL_isDisputed 466 = .ok (.iload 5, 2) := by decide +kernel
theorem dL_isDisputed_468 : decode cL_isDisputed 468 = .ok (.iload 6, 2) := by decide +kernel
theorem dL_isDisputed_470 : decode cL_isDisputed 470 = .ok (.invokevirtual 64, 3) := by decide +kernel
theorem dL_isDisputed_473 : decode cL_isDisputed 473 = .ok (.iload 9, 2) := by decide +kernel
theorem dL_isDisputed_475 : decode cL_isDisputed 475 = .ok (.if_icmp .ne 24, 3) := by decide +kernel
theorem dL_isDisputed_478 : decode cL_isDisputed 478 = .ok (.aload_n 0, 1) := by decide +kernel
theorem dL_isDisputed_479 : decode cL_isDisputed 479 = .ok (.bipush 9, 2) := by decide +kernel
theorem dL_isDisputed_481 : decode cL_isDisputed 481 = .ok (.iload 5, 2) := by decide +kernel
theorem dL_isDisputed_483 : decode cL_isDisputed 483 = .ok (.iload 6, 2) := by decide +kernel
theorem dL_isDisputed_485 : decode cL_isDisputed 485 = .ok (.iconst 0, 1) := by decide +kernel
theorem dL_isDisputed_486 : decode cL_isDisputed 486 = .ok (.iconst 0, 1) := by decide +kernel
theorem dL_isDisputed_487 : decode cL_isDisputed 487 = .ok (.invokestatic 120, 3) := by decide +kernel
theorem dL_isDisputed_490 : decode cL_isDisputed 490 = .ok (.bipush (-10), 2) := by decide +kernel
theorem dL_isDisputed_492 : decode cL_isDisputed 492 = .ok (.if_icmp .ne 7, 3) := by decide +kernel
theorem dL_isDisputed_495 : decode cL_isDisputed 495 = .ok (.iconst 1, 1) := by decide +kernel
theorem dL_isDisputed_496 : decode cL_isDisputed 496 = .ok (.goto 4, 3) := by decide +kernel
theorem dL_isDisputed_499 : decode cL_isDisputed 499 = .ok (.iconst 0, 1) := by decide +kernel
theorem dL_isDisputed_500 : decode cL_isDisputed 500 = .ok (.ireturn, 1) := by decide +kernel
set_option maxRecDepth 20000 in
theorem ggL_isClosed_X1_house : GoodIn wsL_isClosed wsX1_house := goodIn_r _ [5, 6, 7, 8, 9, 10, 11, 12, 13, 14, 15, 16, 17, 18, 19, 20, 21, 22, 23, 24, 25, 26, 27, 28, 29, 30, 31, 32, 33, 34, 35, 36, 37, 38, 39, 40, 41, 42, 43, 44, 45, 46, 47, 48, 49, 50, 4, 51, 52, 53, 54, 55, 56, 57, 58, 59, 60, 61, 62, 63, 64, 65, 66, 67, 68, 69, 70, 71, 72, 73, 74, 75, 76, 77, 78, 79, 80, 81, 82, 83, 84, 85, 86, 87, 88, 89, 90, 91, 92, 93, 94, 95, 96, 97, 98, 99, 100, 101, 102, 103, 104, 105, 340, 341, 342, 343, 344, 345, 346, 347, 348, 349, 350, 351, 352, 353, 354, 355, 356, 357, 358] (by decide +kernel) (by decide +kernel)
set_option maxRecDepth 20000 in
theorem gL_isClosed_X1_house : GoodIn wsL_isClosed (wsV RL 100 RX1 yX1_house wsX1_house) := goodIn_app (goodIn_of _ (by decide +kernel)) ggL_isClosed_X1_house
set_option maxRecDepth 20000 in
theorem ggL_isClosed_X1_balance : GoodIn wsL_isClosed wsX1_balance := goodIn_ca (goodIn_r _ [109, 110, 111, 4, 112, 113, 114, 115, 116, 117, 118, 8, 119, 48, 49, 50, 51, 52, 53, 54, 55, 56, 57, 58, 59, 6, 7, 9, 10, 11, 12, 13, 14, 15, 16, 17, 18, 19, 20, 21, 22, 23, 24, 25, 26, 27, 28, 29, 30, 31, 60, 61, 62, 35, 63, 37, 64, 65, 66, 67, 68, 69, 70, 71, 72, 73, 42, 74, 47, 75, 76, 77, 78, 79, 80, 81, 82, 83, 84, 85, 86, 87, 88, 89, 90, 91, 92, 93, 94, 95, 96, 97, 98, 99, 100, 101, 102, 103, 104, 105, 340, 341, 342, 343, 344, 345, 346, 347, 348, 349, 350, 351, 352, 353, 354, 355, 356, 357, 358] (by decide +kernel) (by decide +kernel)) (goodIn_sub (fun _ h => List.mem_cons_of_mem _ (List.mem_append_left _ (List.mem_append_left _ (List.mem_append_right _ h)))) (by decide +kernel))
set_option maxRecDepth 20000 in
theorem gL_isClosed_X1_balance : GoodIn wsL_isClosed (wsV RL 83 RX1 yX1_balance wsX1_balance) := goodIn_app (goodIn_of _ (by decide +kernel)) ggL_isClosed_X1_balance
set_option maxRecDepth 20000 in
theorem ggL_isClosed_X1_pay : GoodIn wsL_isClosed wsX1_pay := goodIn_ca (goodIn_ca (goodIn_r _ [123, 8, 110, 111, 4, 112, 113, 114, 124, 125, 126, 127, 128, 52, 53, 54, 55, 56, 57, 58, 59, 6, 7, 9, 10, 11, 12, 13, 14, 15, 16, 17, 18, 19, 20, 21, 22, 23, 24, 25, 26, 27, 28, 29, 30, 31, 60, 61, 62, 35, 63, 37, 64, 65, 66, 67, 68, 69, 70, 71, 72, 73, 42, 74, 47, 75, 76, 77, 78, 79, 80, 81, 82, 83, 84, 85, 86, 87, 88, 89, 90, 91, 92, 93, 94, 95, 96, 97, 98, 99, 100, 101, 102, 103, 104, 105, 340, 341, 342, 343, 344, 345, 346, 347, 348, 349, 350, 351, 352, 353, 354, 355, 356, 357, 358] (by decide +kernel) (by decide +kernel)) (goodIn_sub (fun _ h => List.mem_cons_of_mem _ (List.mem_append_left _ (List.mem_append_left _ (List.mem_append_right _ h)))) (by decide +kernel))) (goodIn_sub (fun _ h => List.mem_cons_of_mem _ (List.mem_append_left _ (List.mem_append_right _ h))) (by decide +kernel))
set_option maxRecDepth 20000 in
theorem gL_isClosed_X1_pay : GoodIn wsL_isClosed (wsV RL 80 RX1 yX1_pay wsX1_pay) := goodIn_app (goodIn_of _ (by decide +kernel)) ggL_isClosed_X1_pay
set_option maxRecDepth 20000 in
theorem ggL_isClosed_L_does : GoodIn wsL_isClosed wsL_does := goodIn_ca (goodIn_ca (goodIn_ca (goodIn_r _ [132, 133, 134, 135, 136, 137, 131, 138, 139, 140, 141, 4, 142, 143, 144, 124, 125, 126, 127, 128, 145, 146, 147, 148, 149, 150, 6, 151, 152, 35, 8, 110, 111, 112, 113, 114, 9, 10, 11, 12, 13, 14, 153, 154, 155, 156, 7, 15, 16, 17, 18, 19, 20, 21, 22, 23, 24, 25, 26, 27, 28, 29, 30, 31, 157, 158, 159, 160, 64, 32, 33, 34, 36, 37, 161, 162, 163, 164, 165, 166, 65, 167, 42, 47, 168, 169, 170, 171, 172, 173, 174, 175, 176, 177, 178, 179, 180, 181, 182, 183, 184, 185, 186, 187, 83, 84, 85, 188, 189, 190, 191, 192, 193, 194, 195, 196, 197, 198, 199, 200, 201, 202, 203, 204, 205, 206, 207, 208, 209, 210, 211, 212, 213, 214, 215, 216, 217, 218, 219, 220, 221, 222, 223, 224, 225, 226, 227, 228, 229, 230, 231, 232, 233, 234, 235, 236, 237, 238, 239, 240, 75, 76, 77, 241, 242, 243, 244, 245, 246, 247, 248, 249, 250, 251, 252, 253, 254, 255, 256, 257, 258, 259, 260, 261, 262, 263, 264, 265, 266, 267, 268, 98, 269, 270, 271, 272, 273, 274, 275, 276, 277, 278, 279, 280, 281, 282, 283, 284, 285, 286, 287, 288, 289, 290, 291, 292, 293, 294, 295, 296, 297, 298, 299, 300, 301, 302, 303, 304, 38, 39, 40, 41, 305, 306, 307, 308, 309, 310, 311, 312, 313, 314, 315, 316, 317, 318, 319, 320, 321, 322, 323, 324, 325, 326, 327, 328, 329, 330, 74, 331, 332, 333, 334, 335, 119, 336, 337, 338, 339, 115, 116, 117, 118, 48, 49, 50, 51, 52, 53, 54, 55, 56, 57, 58, 59, 60, 61, 62, 63, 66, 67, 68, 69, 70, 71, 72, 73, 78, 79, 80, 81, 82, 86, 87, 88, 89, 90, 91, 92, 93, 94, 95, 96, 97, 99, 100, 101, 102, 103, 104, 105, 340, 341, 342, 343, 344, 348, 349, 350, 351, 352, 353, 354, 355, 356, 357, 358, 345, 346, 347] (by decide +kernel) (by decide +kernel)) (goodIn_sub (fun _ h => List.mem_cons_of_mem _ (List.mem_append_left _ (List.mem_append_right _ h))) (by decide +kernel))) (goodIn_sub (fun _ h => List.mem_cons_of_mem _ (List.mem_append_right _ h)) (by decide +kernel))) (goodIn_sub (fun _ h => List.mem_cons_of_mem _ (List.mem_append_left _ (List.mem_append_left _ (List.mem_append_right _ h)))) (by decide +kernel))
set_option maxRecDepth 20000 in
theorem gL_isClosed_L_does : GoodIn wsL_isClosed (va_wsS RL 120 yL_does wsL_does) := goodIn_app (goodIn_of _ (by decide +kernel)) ggL_isClosed_L_does
theorem dL_isClosed_0 : decode cL_isClosed 0 = .ok (.aload_n 2, 1) := by decide +kernel
theorem dL_isClosed_1 : decode cL_isClosed 1 = .ok (.iconst 1, 1) := by decide +kernel
theorem dL_isClosed_2 : decode cL_isClosed 2 = .ok (.iaload, 1) := by decide +kernel
theorem dL_isClosed_3 : decode cL_isClosed 3 = .ok (.bipush 20, 2) := by decide +kernel
theorem dL_isClosed_5 : decode cL_isClosed 5 = .ok (.if_icmp .ge 7, 3) := by decide +kernel
theorem dL_isClosed_8 : decode cL_isClosed 8 = .ok (.iconst 1, 1) := by decide +kernel
theorem dL_isClosed_9 : decode cL_isClosed 9 = .ok (.goto 4, 3) := by decide +kernel
theorem dL_isClosed_12 : decode cL_isClosed 12 = .ok (.iconst 0, 1) := by decide +kernel
theorem dL_isClosed_13 : decode cL_isClosed 13 = .ok (.istore_n 3, 1) := by decide +kernel
theorem dL_isClosed_14 : decode cL_isClosed 14 = .ok (.iconst 0, 1) := by decide +kernel
theorem dL_isClosed_15 : decode cL_isClosed 15 = .ok (.istore 4, 2) := by decide +kernel
theorem dL_isClosed_17 : decode cL_isClosed 17 = .ok (.iload 4, 2) := by decide +kernel
theorem dL_isClosed_19 : decode cL_isClosed 19 = .ok (.aload_n 2, 1) := by decide +kernel
theorem dL_isClosed_20 : decode cL_isClosed 20 = .ok (.iconst 0, 1) := by decide +kernel
theorem dL_isClosed_21 : decode cL_isClosed 21 = .ok (.iaload, 1) := by decide +kernel
theorem dL_isClosed_22 : decode cL_isClosed 22 = .ok (.if_icmp .ge 30, 3) := by decide +kernel
theorem dL_isClosed_25 : decode cL_isClosed 25 = .ok (.iload_n 3, 1) := by decide +kernel
theorem dL_isClosed_26 : decode cL_isClosed 26 = .ok (.ifCond .eq 18, 3) := by decide +kernel
theorem dL_isClosed_29 : decode cL_isClosed 29 = .ok (.aload_n 1, 1) := by decide +kernel
theorem dL_isClosed_30 : decode cL_isClosed 30 = .ok (.bipush 20, 2) := by decide +kernel
theorem dL_isClosed_32 : decode cL_isClosed 32 = .ok (.iload 4, 2) := by decide +kernel
theorem dL_isClosed_34 : decode cL_isClosed 34 = .ok (.iadd, 1) := by decide +kernel
theorem dL_isClosed_35 : decode cL_isClosed 35 = .ok (.iaload, 1) := by decide +kernel
theorem dL_isClosed_36 : decode cL_isClosed 36 = .ok (.iconst 1, 1) := by decide +kernel
theorem dL_isClosed_37 : decode cL_isClosed 37 = .ok (.if_icmp .ne 7, 3) := by decide +kernel
theorem dL_isClosed_40 : decode cL_isClosed 40 = .ok (.iconst 1, 1) := by decide +kernel
theorem dL_isClosed_41 : decode cL_isClosed 41 = .ok (.goto 4, 3) := by decide +kernel
theorem dL_isClosed_44 : decode cL_isClosed 44 = .ok (.iconst 0, 1) := by decide +kernel
theorem dL_isClosed_45 : decode cL_isClosed 45 = .ok (.istore_n 3, 1) := by decide +kernel
theorem dL_isClosed_46 : decode cL_isClosed 46 = .ok (.iinc 4 1, 3) := by decide +kernel
theorem dL_isClosed_49 : decode cL_isClosed 49 = .ok (.goto (-32), 3) := by decide +kernel
theorem dL_isClosed_52 : decode cL_isClosed 52 = .ok (.iconst 0, 1) := by decide +kernel
theorem dL_isClosed_53 : decode cL_isClosed 53 = .ok (.istore 4, 2) := by decide +kernel
theorem dL_isClosed_55 : decode cL_isClosed 55 = .ok (.aload_n 0, 1) := by decide +kernel
theorem dL_isClosed_56 : decode cL_isClosed 56 = .ok (.invokevirtual 100, 3) := by decide +kernel
theorem dL_isClosed_59 : decode cL_isClosed 59 = .ok (.istore 5, 2) := by decide +kernel
theorem dL_isClosed_61 : decode cL_isClosed 61 = .ok (.iconst 0, 1) := by decide +kernel
theorem dL_isClosed_62 : decode cL_isClosed 62 = .ok (.istore 6, 2) := by decide +kernel
theorem dL_isClosed_64 : decode cL_isClosed 64 = .ok (.iload 6, 2) := by decide +kernel
theorem dL_isClosed_66 : decode cL_isClosed 66 = .ok (.iconst 5, 1) := by decide +kernel
theorem dL_isClosed_67 : decode cL_isClosed 67 = .ok (.if_icmp .ge 43, 3) := by decide +kernel
theorem dL_isClosed_70 : decode cL_isClosed 70 = .ok (.aload_n 0, 1) := by decide +kernel
theorem dL_isClosed_71 : decode cL_isClosed 71 = .ok (.iload 6, 2) := by decide +kernel
theorem dL_isClosed_73 : decode cL_isClosed 73 = .ok (.invokevirtual 83, 3) := by decide +kernel
theorem dL_isClosed_76 : decode cL_isClosed 76 = .ok (.aload_n 0, 1) := by decide +kernel
theorem dL_isClosed_77 : decode cL_isClosed 77 = .ok (.iload 6, 2) := by decide +kernel
theorem dL_isClosed_79 : decode cL_isClosed 79 = .ok (.aload_n 2, 1) := by decide +kernel
theorem dL_isClosed_80 : decode cL_isClosed 80 = .ok (.iconst 1, 1) := by decide +kernel
theorem dL_isClosed_81 : decode cL_isClosed 81 = .ok (.iaload, 1) := by decide +kernel
theorem dL_isClosed_82 : decode cL_isClosed 82 = .ok (.invokevirtual 80, 3) := by decide +kernel
theorem dL_isClosed_85 : decode cL_isClosed 85 = .ok (.iadd, 1) := by decide +kernel
theorem dL_isClosed_86 : decode cL_isClosed 86 = .ok (.istore 7, 2) := by decide +kernel
theorem dL_isClosed_88 : decode cL_isClosed 88 = .ok (.iload 4, 2) := by decide +kernel
theorem dL_isClosed_90 : decode cL_isClosed 90 = .ok (.iload 7, 2) := by decide +kernel
theorem dL_isClosed_92 : decode cL_isClosed 92 = .ok (.ifCond .le 8, 3) := by decide +kernel
theorem dL_isClosed_95 : decode cL_isClosed 95 = .ok (.iload 7, 2) := by decide +kernel
theorem dL_isClosed_97 : decode cL_isClosed 97 = .ok (.goto 4, 3) := by decide +kernel
theorem dL_isClosed_100 : decode cL_isClosed 100 = .ok (.iconst 0, 1) := by decide +kernel
theorem dL_isClosed_101 : decode cL_isClosed 101 = .ok (.iadd, 1) := by decide +kernel
theorem dL_isClosed_102 : decode cL_isClosed 102 = .ok (.istore 4, 2) := by decide +kernel
theorem dL_isClosed_104 : decode cL_isClosed 104 = .ok (.iinc 6 1, 3) := by decide +kernel
theorem dL_isClosed_107 : decode cL_isClosed 107 = .ok (.goto (-43), 3) := by decide +kernel
theorem dL_isClosed_110 : decode cL_isClosed 110 = .ok (.aload_n 0, 1) := by decide +kernel
theorem dL_isClosed_111 : decode cL_isClosed 111 = .ok (.bipush 10, 2) := by decide +kernel
theorem dL_isClosed_113 : decode cL_isClosed 113 = .ok (.iconst 0, 1) := by decide +kernel
theorem dL_isClosed_114 : decode cL_isClosed 114 = .ok (.iconst 0, 1) := by decide +kernel
theorem dL_isClosed_115 : decode cL_isClosed 115 = .ok (.iconst 0, 1) := by decide +kernel
theorem dL_isClosed_116 : decode cL_isClosed 116 = .ok (.iconst 0, 1) := by decide +kernel
theorem dL_isClosed_117 : decode cL_isClosed 117 = .ok (.invokestatic 120, 3) := by decide +kernel
theorem dL_isClosed_120 : decode cL_isClosed 120 = .ok (.istore 6, 2) := by decide +kernel
theorem dL_isClosed_122 : decode cL_isClosed 122 = .ok (.iload_n 3, 1) := by decide +kernel
theorem dL_isClosed_123 : decode cL_isClosed 123 = .ok (.ifCond .ne 16, 3) := by decide +kernel
theorem dL_isClosed_126 : decode cL_isClosed 126 = .ok (.iload 6, 2) := by decide +kernel
theorem dL_isClosed_128 : decode cL_isClosed 128 = .ok (.bipush (-10), 2) := by decide +kernel
theorem dL_isClosed_130 : decode cL_isClosed 130 = .ok (.if_icmp .ne 7, 3) := by decide +kernel
theorem dL_isClosed_133 : decode cL_isClosed 133 = .ok (.iconst 1, 1) := by decide +kernel
theorem dL_isClosed_134 : decode cL_isClosed 134 = .ok (.goto 4, 3) := by decide +kernel
theorem dL_isClosed_137 : decode cL_isClosed 137 = .ok (.iconst 0, 1) := by decide +kernel
theorem dL_isClosed_138 : decode cL_isClosed 138 = .ok (.ireturn, 1) := by decide +kernel
theorem dL_isClosed_139 : decode cL_isClosed 139 = .ok (.aload_n 2, 1) := by decide +kernel
theorem dL_isClosed_140 : decode cL_isClosed 140 = .ok (.iconst 1, 1) := by decide +kernel
theorem dL_isClosed_141 : decode cL_isClosed 141 = .ok (.dup2, 1) := by decide +kernel
theorem dL_isClosed_142 : decode cL_isClosed 142 = .ok (.iaload, 1) := by decide +kernel
theorem dL_isClosed_143 : decode cL_isClosed 143 = .ok (.iconst 1, 1) := by decide +kernel
theorem dL_isClosed_144 : decode cL_isClosed 144 = .ok (.iadd, 1) := by decide +kernel
theorem dL_isClosed_145 : decode cL_isClosed 145 = .ok (.iastore, 1) := by decide +kernel
theorem dL_isClosed_146 : decode cL_isClosed 146 = .ok (.iload 6, 2) := by decide +kernel
theorem dL_isClosed_148 : decode cL_isClosed 148 = .ok (.iload 4, 2) := by decide +kernel
theorem dL_isClosed_150 : decode cL_isClosed 150 = .ok (.if_icmp .ne 16, 3) := by decide +kernel
theorem dL_isClosed_153 : decode cL_isClosed 153 = .ok (.aload_n 0, 1) := by decide +kernel
theorem dL_isClosed_154 : decode cL_isClosed 154 = .ok (.invokevirtual 100, 3) := by decide +kernel
theorem dL_isClosed_157 : decode cL_isClosed 157 = .ok (.iload 5, 2) := by decide +kernel
theorem dL_isClosed_159 : decode cL_isClosed 159 = .ok (.if_icmp .ne 7, 3) := by decide +kernel
theorem dL_isClosed_162 : decode cL_isClosed 162 = .ok (.iconst 1, 1) := by decide +kernel
theorem dL_isClosed_163 : decode cL_isClosed 163 = .ok (.goto 4, 3) := by decide +kernel
theorem dL_isClosed_166 : decode cL_isClosed 166 = .ok (.iconst 0, 1) := by decide +kernel
theorem dL_isClosed_167 : decode cL_isClosed 167 = .ok (.istore 7, 2) := by decide +kernel
theorem dL_isClosed_169 : decode cL_isClosed 169 = .ok (.iconst 0, 1) := by decide +kernel
theorem dL_isClosed_170 : decode cL_isClosed 170 = .ok (.istore 8, 2) := by decide +kernel
theorem dL_isClosed_172 : decode cL_isClosed 172 = .ok (.iload 8, 2) := by decide +kernel
theorem dL_isClosed_174 : decode cL_isClosed 174 = .ok (.iconst 5, 1) := by decide +kernel
theorem dL_isClosed_175 : decode cL_isClosed 175 = .ok (.if_icmp .ge 42, 3) := by decide +kernel
theorem dL_isClosed_178 : decode cL_isClosed 178 = .ok (.iload 7, 2) := by decide +kernel
theorem dL_isClosed_180 : decode cL_isClosed 180 = .ok (.ifCond .eq 37, 3) := by decide +kernel
theorem dL_isClosed_183 : decode cL_isClosed 183 = .ok (.aload_n 0, 1) := by decide +kernel
theorem dL_isClosed_184 : decode cL_isClosed 184 = .ok (.iload 8, 2) := by decide +kernel
theorem dL_isClosed_186 : decode cL_isClosed 186 = .ok (.invokevirtual 83, 3) := by decide +kernel
theorem dL_isClosed_189 : decode cL_isClosed 189 = .ok (.ifCond .gt 19, 3) := by decide +kernel
theorem dL_isClosed_192 : decode cL_isClosed 192 = .ok (.aload_n 0, 1) := by decide +kernel
theorem dL_isClosed_193 : decode cL_isClosed 193 = .ok (.iload 8, 2) := by decide +kernel
theorem dL_isClosed_195 : decode cL_isClosed 195 = .ok (.aload_n 2, 1) := by decide +kernel
theorem dL_isClosed_196 : decode cL_isClosed 196 = .ok (.iconst 1, 1) := by decide +kernel
theorem dL_isClosed_197 : decode cL_isClosed 197 = .ok (.iaload, 1) := by decide +kernel
theorem dL_isClosed_198 : decode cL_isClosed 198 = .ok (.invokevirtual 80, 3) := by decide +kernel
theorem dL_isClosed_201 : decode cL_isClosed 201 = .ok (.ifCond .ne 7, 3) := by decide +kernel
theorem dL_isClosed_204 : decode cL_isClosed 204 = .ok (.iconst 1, 1) := by decide +kernel
theorem dL_isClosed_205 : decode cL_isClosed 205 = .ok (.goto 4, 3) := by decide +kernel
theorem dL_isClosed_208 : decode cL_isClosed 208 = .ok (.iconst 0, 1) := by decide +kernel
theorem dL_isClosed_209 : decode cL_isClosed 209 = .ok (.istore 7, 2) := by decide +kernel
theorem dL_isClosed_211 : decode cL_isClosed 211 = .ok (.iinc 8 1, 3) := by decide +kernel
theorem dL_isClosed_214 : decode cL_isClosed 214 = .ok (.goto (-42), 3) := by decide +kernel
theorem dL_isClosed_217 : decode cL_isClosed 217 = .ok (.iload 7, 2) := by decide +kernel
theorem dL_isClosed_219 : decode cL_isClosed 219 = .ok (.ireturn, 1) := by decide +kernel
set_option maxRecDepth 20000 in
theorem ggL_isDone_L_part : GoodIn wsL_isDone wsL_part := goodIn_r _ [4, 5] rfl (by decide +kernel)
