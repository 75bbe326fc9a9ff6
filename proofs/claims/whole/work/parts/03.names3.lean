theorem dX1_existingRide_12 : decode cX1_existingRide 12 = .ok (.if_icmp .lt 13, 3) := by decide +kernel
theorem dX1_existingRide_15 : decode cX1_existingRide 15 = .ok (.new 224, 3) := by decide +kernel
theorem dX1_existingRide_18 : decode cX1_existingRide 18 = .ok (.dup, 1) := by decide +kernel
theorem dX1_existingRide_19 : decode cX1_existingRide 19 = .ok (.ldc 226, 2) := by decide +kernel
theorem dX1_existingRide_21 : decode cX1_existingRide 21 = .ok (.invokespecial 228, 3) := by decide +kernel
theorem dX1_existingRide_24 : decode cX1_existingRide 24 = .ok (.athrow, 1) := by decide +kernel
theorem dX1_existingRide_25 : decode cX1_existingRide 25 = .ok (.aload_n 0, 1) := by decide +kernel
theorem dX1_existingRide_26 : decode cX1_existingRide 26 = .ok (.getfield 10, 3) := by decide +kernel
theorem dX1_existingRide_29 : decode cX1_existingRide 29 = .ok (.iload_n 1, 1) := by decide +kernel
theorem dX1_existingRide_30 : decode cX1_existingRide 30 = .ok (.invokevirtual 159, 3) := by decide +kernel
theorem dX1_existingRide_33 : decode cX1_existingRide 33 = .ok (.checkcast 55, 3) := by decide +kernel
theorem dX1_existingRide_36 : decode cX1_existingRide 36 = .ok (.areturn, 1) := by decide +kernel
set_option maxRecDepth 20000 in
theorem ggX1_rideUnderWay_X1_existingRide : GoodIn wsX1_rideUnderWay wsX1_existingRide := goodIn_ca (goodIn_r _ [5, 6, 7, 8, 9, 10, 11, 12, 13, 14, 15, 16, 17, 18, 19, 20, 21, 22, 23, 24, 25, 26, 27, 28, 29, 30, 31, 32, 47, 48, 49, 50, 51, 52, 53, 54] (by decide +kernel) (by decide +kernel)) (goodIn_sub (fun _ h => List.mem_cons_of_mem _ (List.mem_append_left _ (List.mem_append_right _ h))) (by decide +kernel))
set_option maxRecDepth 20000 in
theorem gX1_rideUnderWay_X1_existingRide : GoodIn wsX1_rideUnderWay (wsV RX1 105 RX1 yX1_existingRide wsX1_existingRide) := goodIn_app (goodIn_of _ (by decide +kernel)) ggX1_rideUnderWay_X1_existingRide
set_option maxRecDepth 20000 in
theorem ggX1_rideUnderWay_X1_checkRider : GoodIn wsX1_rideUnderWay wsX1_checkRider := goodIn_ca (goodIn_r _ [35, 6, 7] (by decide +kernel) (by decide +kernel)) (goodIn_sub (fun _ h => List.mem_cons_of_mem _ (List.mem_append_left _ (List.mem_append_right _ h))) (by decide +kernel))
set_option maxRecDepth 20000 in
theorem gX1_rideUnderWay_X1_checkRider : GoodIn wsX1_rideUnderWay (va_wsS RX1 126 yX1_checkRider wsX1_checkRider) := goodIn_app (goodIn_of _ (by decide +kernel)) ggX1_rideUnderWay_X1_checkRider
set_option maxRecDepth 20000 in
theorem ggX1_rideUnderWay_X1_checkUnderWay : GoodIn wsX1_rideUnderWay wsX1_checkUnderWay := goodIn_ca (goodIn_r _ [38, 39, 40, 41, 42, 43, 44, 45, 46, 55, 56, 57, 58, 59, 60, 61, 62, 63, 64, 65] (by decide +kernel) (by decide +kernel)) (goodIn_sub (fun _ h => List.mem_cons_of_mem _ (List.mem_append_right _ h)) (by decide +kernel))
set_option maxRecDepth 20000 in
theorem gX1_rideUnderWay_X1_checkUnderWay : GoodIn wsX1_rideUnderWay (va_wsS RX1 109 yX1_checkUnderWay wsX1_checkUnderWay) := goodIn_app (goodIn_of _ (by decide +kernel)) ggX1_rideUnderWay_X1_checkUnderWay
theorem dX1_rideUnderWay_0 : decode cX1_rideUnderWay 0 = .ok (.aload_n 0, 1) := by decide +kernel
theorem dX1_rideUnderWay_1 : decode cX1_rideUnderWay 1 = .ok (.iload_n 1, 1) := by decide +kernel
theorem dX1_rideUnderWay_2 : decode cX1_rideUnderWay 2 = .ok (.invokevirtual 105, 3) := by decide +kernel
theorem dX1_rideUnderWay_5 : decode cX1_rideUnderWay 5 = .ok (.astore_n 3, 1) := by decide +kernel
theorem dX1_rideUnderWay_6 : decode cX1_rideUnderWay 6 = .ok (.iload_n 2, 1) := by decide +kernel
theorem dX1_rideUnderWay_7 : decode cX1_rideUnderWay 7 = .ok (.invokestatic 126, 3) := by decide +kernel
theorem dX1_rideUnderWay_10 : decode cX1_rideUnderWay 10 = .ok (.aload_n 3, 1) := by decide +kernel
theorem dX1_rideUnderWay_11 : decode cX1_rideUnderWay 11 = .ok (.invokestatic 109, 3) := by decide +kernel
theorem dX1_rideUnderWay_14 : decode cX1_rideUnderWay 14 = .ok (.aload_n 3, 1) := by decide +kernel
theorem dX1_rideUnderWay_15 : decode cX1_rideUnderWay 15 = .ok (.areturn, 1) := by decide +kernel
set_option maxRecDepth 20000 in
theorem ggX1_checkUnderWay_X0_isFinished : GoodIn wsX1_checkUnderWay wsX0_isFinished := goodIn_r _ [7, 8, 9, 10, 11, 12, 13, 14, 15, 16, 17, 18, 19] (by decide +kernel) (by decide +kernel)
set_option maxRecDepth 20000 in
theorem gX1_checkUnderWay_X0_isFinished : GoodIn wsX1_checkUnderWay (wsV RX1 133 RX0 yX0_isFinished wsX0_isFinished) := goodIn_app (goodIn_of _ (by decide +kernel)) ggX1_checkUnderWay_X0_isFinished
theorem dX1_checkUnderWay_0 : decode cX1_checkUnderWay 0 = .ok (.aload_n 0, 1) := by decide +kernel
theorem dX1_checkUnderWay_1 : decode cX1_checkUnderWay 1 = .ok (.invokevirtual 133, 3) := by decide +kernel
theorem dX1_checkUnderWay_4 : decode cX1_checkUnderWay 4 = .ok (.ifCond .eq 13, 3) := by decide +kernel
theorem dX1_checkUnderWay_7 : decode cX1_checkUnderWay 7 = .ok (.new 42, 3) := by decide +kernel
theorem dX1_checkUnderWay_10 : decode cX1_checkUnderWay 10 = .ok (.dup, 1) := by decide +kernel
theorem dX1_checkUnderWay_11 : decode cX1_checkUnderWay 11 = .ok (.ldc 229, 2) := by decide +kernel
theorem dX1_checkUnderWay_13 : decode cX1_checkUnderWay 13 = .ok (.invokespecial 46, 3) := by decide +kernel
theorem dX1_checkUnderWay_16 : decode cX1_checkUnderWay 16 = .ok (.athrow, 1) := by decide +kernel
theorem dX1_checkUnderWay_17 : decode cX1_checkUnderWay 17 = .ok (.return_, 1) := by decide +kernel
theorem dX1_checkRider_0 : decode cX1_checkRider 0 = .ok (.iload_n 0, 1) := by decide +kernel
theorem dX1_checkRider_1 : decode cX1_checkRider 1 = .ok (.ifCond .lt 9, 3) := by decide +kernel
theorem dX1_checkRider_4 : decode cX1_checkRider 4 = .ok (.iload_n 0, 1) := by decide +kernel
theorem dX1_checkRider_5 : decode cX1_checkRider 5 = .ok (.bipush 10, 2) := by decide +kernel
theorem dX1_checkRider_7 : decode cX1_checkRider 7 = .ok (.if_icmp .lt 13, 3) := by decide +kernel
theorem dX1_checkRider_10 : decode cX1_checkRider 10 = .ok (.new 224, 3) := by decide +kernel
theorem dX1_checkRider_13 : decode cX1_checkRider 13 = .ok (.dup, 1) := by decide +kernel
theorem dX1_checkRider_14 : decode cX1_checkRider 14 = .ok (.ldc 231, 2) := by decide +kernel
theorem dX1_checkRider_16 : decode cX1_checkRider 16 = .ok (.invokespecial 228, 3) := by decide +kernel
theorem dX1_checkRider_19 : decode cX1_checkRider 19 = .ok (.athrow, 1) := by decide +kernel
theorem dX1_checkRider_20 : decode cX1_checkRider 20 = .ok (.return_, 1) := by decide +kernel
theorem dX1_checkDriver_0 : decode cX1_checkDriver 0 = .ok (.iload_n 0, 1) := by decide +kernel
theorem dX1_checkDriver_1 : decode cX1_checkDriver 1 = .ok (.ifCond .lt 8, 3) := by decide +kernel
theorem dX1_checkDriver_4 : decode cX1_checkDriver 4 = .ok (.iload_n 0, 1) := by decide +kernel
theorem dX1_checkDriver_5 : decode cX1_checkDriver 5 = .ok (.iconst 5, 1) := by decide +kernel
theorem dX1_checkDriver_6 : decode cX1_checkDriver 6 = .ok (.if_icmp .lt 13, 3) := by decide +kernel
theorem dX1_checkDriver_9 : decode cX1_checkDriver 9 = .ok (.new 224, 3) := by decide +kernel
theorem dX1_checkDriver_12 : decode cX1_checkDriver 12 = .ok (.dup, 1) := by decide +kernel
theorem dX1_checkDriver_13 : decode cX1_checkDriver 13 = .ok (.ldc 233, 2) := by decide +kernel
theorem dX1_checkDriver_15 : decode cX1_checkDriver 15 = .ok (.invokespecial 228, 3) := by decide +kernel
theorem dX1_checkDriver_18 : decode cX1_checkDriver 18 = .ok (.athrow, 1) := by decide +kernel
theorem dX1_checkDriver_19 : decode cX1_checkDriver 19 = .ok (.return_, 1) := by decide +kernel
theorem dX1_checkRange_0 : decode cX1_checkRange 0 = .ok (.iload_n 0, 1) := by decide +kernel
theorem dX1_checkRange_1 : decode cX1_checkRange 1 = .ok (.iload_n 1, 1) := by decide +kernel
theorem dX1_checkRange_2 : decode cX1_checkRange 2 = .ok (.if_icmp .lt 8, 3) := by decide +kernel
theorem dX1_checkRange_5 : decode cX1_checkRange 5 = .ok (.iload_n 0, 1) := by decide +kernel
theorem dX1_checkRange_6 : decode cX1_checkRange 6 = .ok (.iload_n 2, 1) := by decide +kernel
theorem dX1_checkRange_7 : decode cX1_checkRange 7 = .ok (.if_icmp .le 13, 3) := by decide +kernel
theorem dX1_checkRange_10 : decode cX1_checkRange 10 = .ok (.new 235, 3) := by decide +kernel
theorem dX1_checkRange_13 : decode cX1_checkRange 13 = .ok (.dup, 1) := by decide +kernel
theorem dX1_checkRange_14 : decode cX1_checkRange 14 = .ok (.ldc 237, 2) := by decide +kernel
theorem dX1_checkRange_16 : decode cX1_checkRange 16 = .ok (.invokespecial 239, 3) := by decide +kernel
theorem dX1_checkRange_19 : decode cX1_checkRange 19 = .ok (.athrow, 1) := by decide +kernel
theorem dX1_checkRange_20 : decode cX1_checkRange 20 = .ok (.return_, 1) := by decide +kernel
theorem dX2_init_0 : decode cX2_init 0 = .ok (.aload_n 0, 1) := by decide +kernel
theorem dX2_init_1 : decode cX2_init 1 = .ok (.invokespecial 1, 3) := by decide +kernel
theorem dX2_init_4 : decode cX2_init 4 = .ok (.aload_n 0, 1) := by decide +kernel
theorem dX2_init_5 : decode cX2_init 5 = .ok (.bipush 100, 2) := by decide +kernel
theorem dX2_init_7 : decode cX2_init 7 = .ok (.putfield 7, 3) := by decide +kernel
theorem dX2_init_10 : decode cX2_init 10 = .ok (.aload_n 0, 1) := by decide +kernel
theorem dX2_init_11 : decode cX2_init 11 = .ok (.bipush 20, 2) := by decide +kernel
theorem dX2_init_13 : decode cX2_init 13 = .ok (.putfield 13, 3) := by decide +kernel
theorem dX2_init_16 : decode cX2_init 16 = .ok (.aload_n 0, 1) := by decide +kernel
theorem dX2_init_17 : decode cX2_init 17 = .ok (.bipush 40, 2) := by decide +kernel
theorem dX2_init_19 : decode cX2_init 19 = .ok (.newarray .int, 2) := by decide +kernel
theorem dX2_init_21 : decode cX2_init 21 = .ok (.putfield 16, 3) := by decide +kernel
theorem dX2_init_24 : decode cX2_init 24 = .ok (.aload_n 0, 1) := by decide +kernel
theorem dX2_init_25 : decode cX2_init 25 = .ok (.bipush 40, 2) := by decide +kernel
theorem dX2_init_27 : decode cX2_init 27 = .ok (.newarray .int, 2) := by decide +kernel
theorem dX2_init_29 : decode cX2_init 29 = .ok (.putfield 20, 3) := by decide +kernel
theorem dX2_init_32 : decode cX2_init 32 = .ok (.aload_n 0, 1) := by decide +kernel
theorem dX2_init_33 : decode cX2_init 33 = .ok (.bipush 40, 2) := by decide +kernel
theorem dX2_init_35 : decode cX2_init 35 = .ok (.newarray .int, 2) := by decide +kernel
theorem dX2_init_37 : decode cX2_init 37 = .ok (.putfield 23, 3) := by decide +kernel
theorem dX2_init_40 : decode cX2_init 40 = .ok (.aload_n 0, 1) := by decide +kernel
theorem dX2_init_41 : decode cX2_init 41 = .ok (.bipush 40, 2) := by decide +kernel
theorem dX2_init_43 : decode cX2_init 43 = .ok (.newarray .boolean, 2) := by decide +kernel
theorem dX2_init_45 : decode cX2_init 45 = .ok (.putfield 26, 3) := by decide +kernel
theorem dX2_init_48 : decode cX2_init 48 = .ok (.aload_n 0, 1) := by decide +kernel
theorem dX2_init_49 : decode cX2_init 49 = .ok (.bipush 40, 2) := by decide +kernel
theorem dX2_init_51 : decode cX2_init 51 = .ok (.newarray .boolean, 2) := by decide +kernel
theorem dX2_init_53 : decode cX2_init 53 = .ok (.putfield 30, 3) := by decide +kernel
theorem dX2_init_56 : decode cX2_init 56 = .ok (.aload_n 0, 1) := by decide +kernel
theorem dX2_init_57 : decode cX2_init 57 = .ok (.sipush 400, 3) := by decide +kernel
theorem dX2_init_60 : decode cX2_init 60 = .ok (.newarray .int, 2) := by decide +kernel
theorem dX2_init_62 : decode cX2_init 62 = .ok (.putfield 33, 3) := by decide +kernel
theorem dX2_init_65 : decode cX2_init 65 = .ok (.aload_n 0, 1) := by decide +kernel
theorem dX2_init_66 : decode cX2_init 66 = .ok (.sipush 400, 3) := by decide +kernel
theorem dX2_init_69 : decode cX2_init 69 = .ok (.newarray .int, 2) := by decide +kernel
theorem dX2_init_71 : decode cX2_init 71 = .ok (.putfield 36, 3) := by decide +kernel
theorem dX2_init_74 : decode cX2_init 74 = .ok (.aload_n 0, 1) := by decide +kernel
theorem dX2_init_75 : decode cX2_init 75 = .ok (.sipush 400, 3) := by decide +kernel
theorem dX2_init_78 : decode cX2_init 78 = .ok (.newarray .int, 2) := by decide +kernel
theorem dX2_init_80 : decode cX2_init 80 = .ok (.putfield 39, 3) := by decide +kernel
theorem dX2_init_83 : decode cX2_init 83 = .ok (.aload_n 0, 1) := by decide +kernel
theorem dX2_init_84 : decode cX2_init 84 = .ok (.sipush 400, 3) := by decide +kernel
theorem dX2_init_87 : decode cX2_init 87 = .ok (.newarray .int, 2) := by decide +kernel
theorem dX2_init_89 : decode cX2_init 89 = .ok (.putfield 42, 3) := by decide +kernel
theorem dX2_init_92 : decode cX2_init 92 = .ok (.aload_n 0, 1) := by decide +kernel
theorem dX2_init_93 : decode cX2_init 93 = .ok (.iconst 5, 1) := by decide +kernel
theorem dX2_init_94 : decode cX2_init 94 = .ok (.newarray .int, 2) := by decide +kernel
theorem dX2_init_96 : decode cX2_init 96 = .ok (.putfield 45, 3) := by decide +kernel
theorem dX2_init_99 : decode cX2_init 99 = .ok (.return_, 1) := by decide +kernel
theorem dX2_thrown_0 : decode cX2_thrown 0 = .ok (.aload_n 0, 1) := by decide +kernel
theorem dX2_thrown_1 : decode cX2_thrown 1 = .ok (.getfield 48, 3) := by decide +kernel
theorem dX2_thrown_4 : decode cX2_thrown 4 = .ok (.ireturn, 1) := by decide +kernel
theorem dX2_fails_0 : decode cX2_fails 0 = .ok (.aload_n 0, 1) := by decide +kernel
theorem dX2_fails_1 : decode cX2_fails 1 = .ok (.iload_n 1, 1) := by decide +kernel
theorem dX2_fails_2 : decode cX2_fails 2 = .ok (.putfield 48, 3) := by decide +kernel
theorem dX2_fails_5 : decode cX2_fails 5 = .ok (.iload_n 1, 1) := by decide +kernel
theorem dX2_fails_6 : decode cX2_fails 6 = .ok (.ifCond .le 7, 3) := by decide +kernel
theorem dX2_fails_9 : decode cX2_fails 9 = .ok (.iconst 1, 1) := by decide +kernel
theorem dX2_fails_10 : decode cX2_fails 10 = .ok (.goto 4, 3) := by decide +kernel
theorem dX2_fails_13 : decode cX2_fails 13 = .ok (.iconst 0, 1) := by decide +kernel
theorem dX2_fails_14 : decode cX2_fails 14 = .ok (.ireturn, 1) := by decide +kernel
theorem dX2_tells_0 : decode cX2_tells 0 = .ok (.aload_n 0, 1) := by decide +kernel
theorem dX2_tells_1 : decode cX2_tells 1 = .ok (.iconst 0, 1) := by decide +kernel
theorem dX2_tells_2 : decode cX2_tells 2 = .ok (.putfield 48, 3) := by decide +kernel
theorem dX2_tells_5 : decode cX2_tells 5 = .ok (.iload_n 1, 1) := by decide +kernel
theorem dX2_tells_6 : decode cX2_tells 6 = .ok (.ireturn, 1) := by decide +kernel
theorem dX2_isIn_0 : decode cX2_isIn 0 = .ok (.iload_n 0, 1) := by decide +kernel
theorem dX2_isIn_1 : decode cX2_isIn 1 = .ok (.iload_n 1, 1) := by decide +kernel
theorem dX2_isIn_2 : decode cX2_isIn 2 = .ok (.if_icmp .lt 12, 3) := by decide +kernel
theorem dX2_isIn_5 : decode cX2_isIn 5 = .ok (.iload_n 0, 1) := by decide +kernel
theorem dX2_isIn_6 : decode cX2_isIn 6 = .ok (.iload_n 2, 1) := by decide +kernel
theorem dX2_isIn_7 : decode cX2_isIn 7 = .ok (.if_icmp .gt 7, 3) := by decide +kernel
theorem dX2_isIn_10 : decode cX2_isIn 10 = .ok (.iconst 1, 1) := by decide +kernel
theorem dX2_isIn_11 : decode cX2_isIn 11 = .ok (.goto 4, 3) := by decide +kernel
theorem dX2_isIn_14 : decode cX2_isIn 14 = .ok (.iconst 0, 1) := by decide +kernel
theorem dX2_isIn_15 : decode cX2_isIn 15 = .ok (.ireturn, 1) := by decide +kernel
set_option maxRecDepth 20000 in
theorem ggX2_isRide_X2_isIn : GoodIn wsX2_isRide wsX2_isIn := goodIn_r _ [5] (by decide +kernel) (by decide +kernel)
set_option maxRecDepth 20000 in
theorem gX2_isRide_X2_isIn : GoodIn wsX2_isRide (va_wsS RX2 54 yX2_isIn wsX2_isIn) := goodIn_app (goodIn_of _ (by decide +kernel)) ggX2_isRide_X2_isIn
theorem dX2_isRide_0 : decode cX2_isRide 0 = .ok (.iload_n 1, 1) := by decide +kernel
theorem dX2_isRide_1 : decode cX2_isRide 1 = .ok (.iconst 0, 1) := by decide +kernel
theorem dX2_isRide_2 : decode cX2_isRide 2 = .ok (.aload_n 0, 1) := by decide +kernel
theorem dX2_isRide_3 : decode cX2_isRide 3 = .ok (.getfield 51, 3) := by decide +kernel
theorem dX2_isRide_6 : decode cX2_isRide 6 = .ok (.iconst 1, 1) := by decide +kernel
theorem dX2_isRide_7 : decode cX2_isRide 7 = .ok (.isub, 1) := by decide +kernel
theorem dX2_isRide_8 : decode cX2_isRide 8 = .ok (.invokestatic 54, 3) := by decide +kernel
theorem dX2_isRide_11 : decode cX2_isRide 11 = .ok (.ireturn, 1) := by decide +kernel
set_option maxRecDepth 20000 in
theorem ggX2_isRider_X2_isRide : GoodIn wsX2_isRider wsX2_isRide := goodIn_r _ [5, 6, 7, 8, 4, 9, 10, 11, 12, 13, 14, 15, 16, 17, 18, 19, 20, 21, 22, 23, 24] (by decide +kernel) (by decide +kernel)
set_option maxRecDepth 20000 in
theorem gX2_isRider_X2_isRide : GoodIn wsX2_isRider (wsV RX2 58 RX2 yX2_isRide wsX2_isRide) := goodIn_app (goodIn_of _ (by decide +kernel)) ggX2_isRider_X2_isRide
set_option maxRecDepth 20000 in
theorem ggX2_isRider_X2_isIn : GoodIn wsX2_isRider wsX2_isIn := goodIn_r _ [9] (by decide +kernel) (by decide +kernel)
set_option maxRecDepth 20000 in
theorem gX2_isRider_X2_isIn : GoodIn wsX2_isRider (va_wsS RX2 54 yX2_isIn wsX2_isIn) := goodIn_app (goodIn_of _ (by decide +kernel)) ggX2_isRider_X2_isIn
theorem dX2_isRider_0 : decode cX2_isRider 0 = .ok (.aload_n 0, 1) := by decide +kernel
theorem dX2_isRider_1 : decode cX2_isRider 1 = .ok (.iload_n 1, 1) := by decide +kernel
theorem dX2_isRider_2 : decode cX2_isRider 2 = .ok (.invokevirtual 58, 3) := by decide +kernel
theorem dX2_isRider_5 : decode cX2_isRider 5 = .ok (.ifCond .eq 17, 3) := by decide +kernel
theorem dX2_isRider_8 : decode cX2_isRider 8 = .ok (.iload_n 2, 1) := by decide +kernel
theorem dX2_isRider_9 : decode cX2_isRider 9 = .ok (.iconst 0, 1) := by decide +kernel
theorem dX2_isRider_10 : decode cX2_isRider 10 = .ok (.bipush 9, 2) := by decide +kernel
theorem dX2_isRider_12 : decode cX2_isRider 12 = .ok (.invokestatic 54, 3) := by decide +kernel
theorem dX2_isRider_15 : decode cX2_isRider 15 = .ok (.ifCond .eq 7, 3) := by decide +kernel
theorem dX2_isRider_18 : decode cX2_isRider 18 = .ok (.iconst 1, 1) := by decide +kernel
theorem dX2_isRider_19 : decode cX2_isRider 19 = .ok (.goto 4, 3) := by decide +kernel
theorem dX2_isRider_22 : decode cX2_isRider 22 = .ok (.iconst 0, 1) := by decide +kernel
theorem dX2_isRider_23 : decode cX2_isRider 23 = .ok (.ireturn, 1) := by decide +kernel
set_option maxRecDepth 20000 in
theorem ggX2_isDriver_X2_isIn : GoodIn wsX2_isDriver wsX2_isIn := goodIn_r _ [4] (by decide +kernel) (by decide +kernel)
set_option maxRecDepth 20000 in
theorem gX2_isDriver_X2_isIn : GoodIn wsX2_isDriver (va_wsS RX2 54 yX2_isIn wsX2_isIn) := goodIn_app (goodIn_of _ (by decide +kernel)) ggX2_isDriver_X2_isIn
theorem dX2_isDriver_0 : decode cX2_isDriver 0 = .ok (.iload_n 0, 1) := by decide +kernel
theorem dX2_isDriver_1 : decode cX2_isDriver 1 = .ok (.iconst 0, 1) := by decide +kernel
theorem dX2_isDriver_2 : decode cX2_isDriver 2 = .ok (.iconst 4, 1) := by decide +kernel
theorem dX2_isDriver_3 : decode cX2_isDriver 3 = .ok (.invokestatic 54, 3) := by decide +kernel
theorem dX2_isDriver_6 : decode cX2_isDriver 6 = .ok (.ireturn, 1) := by decide +kernel
set_option maxRecDepth 20000 in
theorem ggX2_setRates_X2_isIn : GoodIn wsX2_setRates wsX2_isIn := goodIn_r _ [6] (by decide +kernel) (by decide +kernel)
set_option maxRecDepth 20000 in
theorem gX2_setRates_X2_isIn : GoodIn wsX2_setRates (va_wsS RX2 54 yX2_isIn wsX2_isIn) := goodIn_app (goodIn_of _ (by decide +kernel)) ggX2_setRates_X2_isIn
set_option maxRecDepth 20000 in
theorem ggX2_setRates_X2_fails : GoodIn wsX2_setRates wsX2_fails := goodIn_r _ [10, 11, 12, 13, 14, 15, 16, 17, 18, 19, 20, 21, 22, 23, 24, 25, 26] (by decide +kernel) (by decide +kernel)
set_option maxRecDepth 20000 in
theorem gX2_setRates_X2_fails : GoodIn wsX2_setRates (wsV RX2 62 RX2 yX2_fails wsX2_fails) := goodIn_app (goodIn_of _ (by decide +kernel)) ggX2_setRates_X2_fails
theorem dX2_setRates_0 : decode cX2_setRates 0 = .ok (.aload_n 0, 1) := by decide +kernel
theorem dX2_setRates_1 : decode cX2_setRates 1 = .ok (.iload_n 1, 1) := by decide +kernel
theorem dX2_setRates_2 : decode cX2_setRates 2 = .ok (.iconst 0, 1) := by decide +kernel
theorem dX2_setRates_3 : decode cX2_setRates 3 = .ok (.sipush 1000, 3) := by decide +kernel
theorem dX2_setRates_6 : decode cX2_setRates 6 = .ok (.invokestatic 54, 3) := by decide +kernel
theorem dX2_setRates_9 : decode cX2_setRates 9 = .ok (.ifCond .eq 18, 3) := by decide +kernel
theorem dX2_setRates_12 : decode cX2_setRates 12 = .ok (.iload_n 2, 1) := by decide +kernel
theorem dX2_setRates_13 : decode cX2_setRates 13 = .ok (.iconst 0, 1) := by decide +kernel
theorem dX2_setRates_14 : decode cX2_setRates 14 = .ok (.sipush 1000, 3) := by decide +kernel
theorem dX2_setRates_17 : decode cX2_setRates 17 = .ok (.invokestatic 54, 3) := by decide +kernel
theorem dX2_setRates_20 : decode cX2_setRates 20 = .ok (.ifCond .eq 7, 3) := by decide +kernel
theorem dX2_setRates_23 : decode cX2_setRates 23 = .ok (.iconst 0, 1) := by decide +kernel
theorem dX2_setRates_24 : decode cX2_setRates 24 = .ok (.goto 4, 3) := by decide +kernel
theorem dX2_setRates_27 : decode cX2_setRates 27 = .ok (.iconst 1, 1) := by decide +kernel
theorem dX2_setRates_28 : decode cX2_setRates 28 = .ok (.invokevirtual 62, 3) := by decide +kernel
theorem dX2_setRates_31 : decode cX2_setRates 31 = .ok (.ifCond .ne 13, 3) := by decide +kernel
theorem dX2_setRates_34 : decode cX2_setRates 34 = .ok (.aload_n 0, 1) := by decide +kernel
theorem dX2_setRates_35 : decode cX2_setRates 35 = .ok (.iload_n 1, 1) := by decide +kernel
theorem dX2_setRates_36 : decode cX2_setRates 36 = .ok (.putfield 7, 3) := by decide +kernel
theorem dX2_setRates_39 : decode cX2_setRates 39 = .ok (.aload_n 0, 1) := by decide +kernel
theorem dX2_setRates_40 : decode cX2_setRates 40 = .ok (.iload_n 2, 1) := by decide +kernel
theorem dX2_setRates_41 : decode cX2_setRates 41 = .ok (.putfield 13, 3) := by decide +kernel
theorem dX2_setRates_44 : decode cX2_setRates 44 = .ok (.return_, 1) := by decide +kernel
theorem dX2_isUnderWay_0 : decode cX2_isUnderWay 0 = .ok (.iconst 0, 1) := by decide +kernel
theorem dX2_isUnderWay_1 : decode cX2_isUnderWay 1 = .ok (.istore_n 2, 1) := by decide +kernel
theorem dX2_isUnderWay_2 : decode cX2_isUnderWay 2 = .ok (.iconst 0, 1) := by decide +kernel
theorem dX2_isUnderWay_3 : decode cX2_isUnderWay 3 = .ok (.istore_n 3, 1) := by decide +kernel
theorem dX2_isUnderWay_4 : decode cX2_isUnderWay 4 = .ok (.iload_n 3, 1) := by decide +kernel
theorem dX2_isUnderWay_5 : decode cX2_isUnderWay 5 = .ok (.aload_n 0, 1) := by decide +kernel
theorem dX2_isUnderWay_6 : decode cX2_isUnderWay 6 = .ok (.getfield 51, 3) := by decide +kernel
theorem dX2_isUnderWay_9 : decode cX2_isUnderWay 9 = .ok (.if_icmp .ge 43, 3) := by decide +kernel
theorem dX2_isUnderWay_12 : decode cX2_isUnderWay 12 = .ok (.iload_n 2, 1) := by decide +kernel
theorem dX2_isUnderWay_13 : decode cX2_isUnderWay 13 = .ok (.ifCond .ne 27, 3) := by decide +kernel
theorem dX2_isUnderWay_16 : decode cX2_isUnderWay 16 = .ok (.aload_n 0, 1) := by decide +kernel
theorem dX2_isUnderWay_17 : decode cX2_isUnderWay 17 = .ok (.getfield 26, 3) := by decide +kernel
theorem dX2_isUnderWay_20 : decode cX2_isUnderWay 20 = .ok (.iload_n 3, 1) := by decide +kernel
theorem dX2_isUnderWay_21 : decode cX2_isUnderWay 21 = .ok (.baload, 1) := by decide +kernel
theorem dX2_isUnderWay_22 : decode cX2_isUnderWay 22 = .ok (.ifCond .ne 22, 3) := by decide +kernel
theorem dX2_isUnderWay_25 : decode cX2_isUnderWay 25 = .ok (.iload_n 1, 1) := by decide +kernel
theorem dX2_isUnderWay_26 : decode cX2_isUnderWay 26 = .ok (.iconst (-1), 1) := by decide +kernel
theorem dX2_isUnderWay_27 : decode cX2_isUnderWay 27 = .ok (.if_icmp .eq 13, 3) := by decide +kernel
theorem dX2_isUnderWay_30 : decode cX2_isUnderWay 30 = .ok (.aload_n 0, 1) := by decide +kernel
theorem dX2_isUnderWay_31 : decode cX2_isUnderWay 31 = .ok (.getfield 16, 3) := by decide +kernel
theorem dX2_isUnderWay_34 : decode cX2_isUnderWay 34 = .ok (.iload_n 3, 1) := by decide +kernel
theorem dX2_isUnderWay_35 : decode cX2_isUnderWay 35 = .ok (.iaload, 1) := by decide +kernel
theorem dX2_isUnderWay_36 : decode cX2_isUnderWay 36 = .ok (.iload_n 1, 1) := by decide +kernel
theorem dX2_isUnderWay_37 : decode cX2_isUnderWay 37 = .ok (.if_icmp .ne 7, 3) := by decide +kernel
theorem dX2_isUnderWay_40 : decode cX2_isUnderWay 40 = .ok (.iconst 1, 1) := by decide +kernel
theorem dX2_isUnderWay_41 : decode cX2_isUnderWay 41 = .ok (.goto 4, 3) := by decide +kernel
theorem dX2_isUnderWay_44 : decode cX2_isUnderWay 44 = .ok (.iconst 0, 1) := by decide +kernel
theorem dX2_isUnderWay_45 : decode cX2_isUnderWay 45 = .ok (.istore_n 2, 1) := by decide +kernel
theorem dX2_isUnderWay_46 : decode cX2_isUnderWay 46 = .ok (.iinc 3 1, 3) := by decide +kernel
theorem dX2_isUnderWay_49 : decode cX2_isUnderWay 49 = .ok (.goto (-45), 3) := by decide +kernel
theorem dX2_isUnderWay_52 : decode cX2_isUnderWay 52 = .ok (.iload_n 2, 1) := by decide +kernel
theorem dX2_isUnderWay_53 : decode cX2_isUnderWay 53 = .ok (.ireturn, 1) := by decide +kernel
set_option maxRecDepth 20000 in
theorem ggX2_start_X2_isDriver : GoodIn wsX2_start wsX2_isDriver := goodIn_r _ [8, 9, 10, 7, 11] (by decide +kernel) (by decide +kernel)
set_option maxRecDepth 20000 in
theorem gX2_start_X2_isDriver : GoodIn wsX2_start (va_wsS RX2 65 yX2_isDriver wsX2_isDriver) := goodIn_app (goodIn_of _ (by decide +kernel)) ggX2_start_X2_isDriver
set_option maxRecDepth 20000 in
theorem ggX2_start_X2_isUnderWay : GoodIn wsX2_start wsX2_isUnderWay := goodIn_r _ [15, 1, 16, 2, 22, 23, 24, 25, 26, 27, 28, 29, 30, 31, 32, 33, 34, 35, 36] (by decide +kernel) (by decide +kernel)
set_option maxRecDepth 20000 in
theorem gX2_start_X2_isUnderWay : GoodIn wsX2_start (wsV RX2 68 RX2 yX2_isUnderWay wsX2_isUnderWay) := goodIn_app (goodIn_of _ (by decide +kernel)) ggX2_start_X2_isUnderWay
set_option maxRecDepth 20000 in
theorem ggX2_start_X2_fails : GoodIn wsX2_start wsX2_fails := goodIn_r _ [20, 21, 22, 23, 24, 25, 26, 27, 28, 29, 30, 31, 32, 33, 34, 35, 36] (by decide +kernel) (by decide +kernel)
set_option maxRecDepth 20000 in
theorem gX2_start_X2_fails : GoodIn wsX2_start (wsV RX2 62 RX2 yX2_fails wsX2_fails) := goodIn_app (goodIn_of _ (by decide +kernel)) ggX2_start_X2_fails
theorem dX2_start_0 : decode cX2_start 0 = .ok (.aload_n 0, 1) := by decide +kernel
theorem dX2_start_1 : decode cX2_start 1 = .ok (.iload_n 1, 1) := by decide +kernel
theorem dX2_start_2 : decode cX2_start 2 = .ok (.invokestatic 65, 3) := by decide +kernel
theorem dX2_start_5 : decode cX2_start 5 = .ok (.ifCond .ne 7, 3) := by decide +kernel
theorem dX2_start_8 : decode cX2_start 8 = .ok (.iconst 1, 1) := by decide +kernel
theorem dX2_start_9 : decode cX2_start 9 = .ok (.goto 25, 3) := by decide +kernel
theorem dX2_start_12 : decode cX2_start 12 = .ok (.aload_n 0, 1) := by decide +kernel
theorem dX2_start_13 : decode cX2_start 13 = .ok (.iload_n 1, 1) := by decide +kernel
theorem dX2_start_14 : decode cX2_start 14 = .ok (.invokevirtual 68, 3) := by decide +kernel
theorem dX2_start_17 : decode cX2_start 17 = .ok (.ifCond .ne 12, 3) := by decide +kernel
theorem dX2_start_20 : decode cX2_start 20 = .ok (.aload_n 0, 1) := by decide +kernel
theorem dX2_start_21 : decode cX2_start 21 = .ok (.getfield 51, 3) := by decide +kernel
theorem dX2_start_24 : decode cX2_start 24 = .ok (.bipush 40, 2) := by decide +kernel
theorem dX2_start_26 : decode cX2_start 26 = .ok (.if_icmp .ne 7, 3) := by decide +kernel
theorem dX2_start_29 : decode cX2_start 29 = .ok (.iconst 2, 1) := by decide +kernel
theorem dX2_start_30 : decode cX2_start 30 = .ok (.goto 4, 3) := by decide +kernel
theorem dX2_start_33 : decode cX2_start 33 = .ok (.iconst 0, 1) := by decide +kernel
theorem dX2_start_34 : decode cX2_start 34 = .ok (.invokevirtual 62, 3) := by decide +kernel
theorem dX2_start_37 : decode cX2_start 37 = .ok (.ifCond .eq 5, 3) := by decide +kernel
theorem dX2_start_40 : decode cX2_start 40 = .ok (.iconst 0, 1) := by decide +kernel
theorem dX2_start_41 : decode cX2_start 41 = .ok (.ireturn, 1) := by decide +kernel
theorem dX2_start_42 : decode cX2_start 42 = .ok (.aload_n 0, 1) := by decide +kernel
theorem dX2_start_43 : decode cX2_start 43 = .ok (.getfield 16, 3) := by decide +kernel
theorem dX2_start_46 : decode cX2_start 46 = .ok (.aload_n 0, 1) := by decide +kernel
theorem dX2_start_47 : decode cX2_start 47 = .ok (.getfield 51, 3) := by decide +kernel
theorem dX2_start_50 : decode cX2_start 50 = .ok (.iload_n 1, 1) := by decide +kernel
theorem dX2_start_51 : decode cX2_start 51 = .ok (.iastore, 1) := by decide +kernel
theorem dX2_start_52 : decode cX2_start 52 = .ok (.aload_n 0, 1) := by decide +kernel
theorem dX2_start_53 : decode cX2_start 53 = .ok (.getfield 20, 3) := by decide +kernel
theorem dX2_start_56 : decode cX2_start 56 = .ok (.aload_n 0, 1) := by decide +kernel
theorem dX2_start_57 : decode cX2_start 57 = .ok (.getfield 51, 3) := by decide +kernel
theorem dX2_start_60 : decode cX2_start 60 = .ok (.aload_n 0, 1) := by decide +kernel
theorem dX2_start_61 : decode cX2_start 61 = .ok (.getfield 71, 3) := by decide +kernel
theorem dX2_start_64 : decode cX2_start 64 = .ok (.iastore, 1) := by decide +kernel
theorem dX2_start_65 : decode cX2_start 65 = .ok (.aload_n 0, 1) := by decide +kernel
theorem dX2_start_66 : decode cX2_start 66 = .ok (.dup, 1) := by decide +kernel
theorem dX2_start_67 : decode cX2_start 67 = .ok (.getfield 51, 3) := by decide +kernel
theorem dX2_start_70 : decode cX2_start 70 = .ok (.iconst 1, 1) := by decide +kernel
theorem dX2_start_71 : decode cX2_start 71 = .ok (.iadd, 1) := by decide +kernel
theorem dX2_start_72 : decode cX2_start 72 = .ok (.putfield 51, 3) := by decide +kernel
theorem dX2_start_75 : decode cX2_start 75 = .ok (.aload_n 0, 1) := by decide +kernel
theorem dX2_start_76 : decode cX2_start 76 = .ok (.getfield 51, 3) := by decide +kernel
theorem dX2_start_79 : decode cX2_start 79 = .ok (.iconst 1, 1) := by decide +kernel
theorem dX2_start_80 : decode cX2_start 80 = .ok (.isub, 1) := by decide +kernel
theorem dX2_start_81 : decode cX2_start 81 = .ok (.ireturn, 1) := by decide +kernel
theorem dX2_many_0 : decode cX2_many 0 = .ok (.iconst 0, 1) := by decide +kernel
theorem dX2_many_1 : decode cX2_many 1 = .ok (.istore_n 3, 1) := by decide +kernel
theorem dX2_many_2 : decode cX2_many 2 = .ok (.iconst 0, 1) := by decide +kernel
theorem dX2_many_3 : decode cX2_many 3 = .ok (.istore 4, 2) := by decide +kernel
theorem dX2_many_5 : decode cX2_many 5 = .ok (.iload 4, 2) := by decide +kernel
theorem dX2_many_7 : decode cX2_many 7 = .ok (.bipush 10, 2) := by decide +kernel
theorem dX2_many_9 : decode cX2_many 9 = .ok (.if_icmp .ge 33, 3) := by decide +kernel
theorem dX2_many_12 : decode cX2_many 12 = .ok (.iload_n 3, 1) := by decide +kernel
theorem dX2_many_13 : decode cX2_many 13 = .ok (.aload_n 0, 1) := by decide +kernel
theorem dX2_many_14 : decode cX2_many 14 = .ok (.getfield 33, 3) := by decide +kernel
theorem dX2_many_17 : decode cX2_many 17 = .ok (.bipush 10, 2) := by decide +kernel
theorem dX2_many_19 : decode cX2_many 19 = .ok (.iload_n 1, 1) := by decide +kernel
theorem dX2_many_20 : decode cX2_many 20 = .ok (.imul, 1) := by decide +kernel
theorem dX2_many_21 : decode cX2_many 21 = .ok (.iload 4, 2) := by decide +kernel
theorem dX2_many_23 : decode cX2_many 23 = .ok (.iadd, 1) := by decide +kernel
theorem dX2_many_24 : decode cX2_many 24 = .ok (.iaload, 1) := by decide +kernel
theorem dX2_many_25 : decode cX2_many 25 = .ok (.iload_n 2, 1) := by decide +kernel
theorem dX2_many_26 : decode cX2_many 26 = .ok (.if_icmp .ne 7, 3) := by decide +kernel
theorem dX2_many_29 : decode cX2_many 29 = .ok (.iconst 1, 1) := by decide +kernel
theorem dX2_many_30 : decode cX2_many 30 = .ok (.goto 4, 3) := by decide +kernel
theorem dX2_many_33 : decode cX2_many 33 = .ok (.iconst 0, 1) := by decide +kernel
theorem dX2_many_34 : decode cX2_many 34 = .ok (.iadd, 1) := by decide +kernel
theorem dX2_many_35 : decode cX2_many 35 = .ok (.istore_n 3, 1) := by decide +kernel
theorem dX2_many_36 : decode cX2_many 36 = .ok (.iinc 4 1, 3) := by decide +kernel
theorem dX2_many_39 : decode cX2_many 39 = .ok (.goto (-34), 3) := by decide +kernel
theorem dX2_many_42 : decode cX2_many 42 = .ok (.iload_n 3, 1) := by decide +kernel
theorem dX2_many_43 : decode cX2_many 43 = .ok (.ireturn, 1) := by decide +kernel
set_option maxRecDepth 20000 in
theorem ggX2_free_X2_many : GoodIn wsX2_free wsX2_many := goodIn_r _ [5, 6, 7, 8, 9, 10, 11, 12, 13, 14, 15, 16, 17, 18, 19, 20, 21] (by decide +kernel) (by decide +kernel)
set_option maxRecDepth 20000 in
theorem gX2_free_X2_many : GoodIn wsX2_free (wsV RX2 74 RX2 yX2_many wsX2_many) := goodIn_app (goodIn_of _ (by decide +kernel)) ggX2_free_X2_many
theorem dX2_free_0 : decode cX2_free 0 = .ok (.iconst 4, 1) := by decide +kernel
theorem dX2_free_1 : decode cX2_free 1 = .ok (.aload_n 0, 1) := by decide +kernel
theorem dX2_free_2 : decode cX2_free 2 = .ok (.iload_n 1, 1) := by decide +kernel
theorem dX2_free_3 : decode cX2_free 3 = .ok (.iconst 1, 1) := by decide +kernel
theorem dX2_free_4 : decode cX2_free 4 = .ok (.invokevirtual 74, 3) := by decide +kernel
theorem dX2_free_7 : decode cX2_free 7 = .ok (.isub, 1) := by decide +kernel
theorem dX2_free_8 : decode cX2_free 8 = .ok (.aload_n 0, 1) := by decide +kernel
theorem dX2_free_9 : decode cX2_free 9 = .ok (.iload_n 1, 1) := by decide +kernel
theorem dX2_free_10 : decode cX2_free 10 = .ok (.iconst 2, 1) := by decide +kernel
theorem dX2_free_11 : decode cX2_free 11 = .ok (.invokevirtual 74, 3) := by decide +kernel
theorem dX2_free_14 : decode cX2_free 14 = .ok (.isub, 1) := by decide +kernel
theorem dX2_free_15 : decode cX2_free 15 = .ok (.ireturn, 1) := by decide +kernel
theorem dX2_at_0 : decode cX2_at 0 = .ok (.aload_n 0, 1) := by decide +kernel
theorem dX2_at_1 : decode cX2_at 1 = .ok (.getfield 33, 3) := by decide +kernel
theorem dX2_at_4 : decode cX2_at 4 = .ok (.bipush 10, 2) := by decide +kernel
theorem dX2_at_6 : decode cX2_at 6 = .ok (.iload_n 1, 1) := by decide +kernel
theorem dX2_at_7 : decode cX2_at 7 = .ok (.imul, 1) := by decide +kernel
theorem dX2_at_8 : decode cX2_at 8 = .ok (.iload_n 2, 1) := by decide +kernel
theorem dX2_at_9 : decode cX2_at 9 = .ok (.iadd, 1) := by decide +kernel
theorem dX2_at_10 : decode cX2_at 10 = .ok (.iaload, 1) := by decide +kernel
theorem dX2_at_11 : decode cX2_at 11 = .ok (.ireturn, 1) := by decide +kernel
set_option maxRecDepth 20000 in
theorem ggX2_book_X2_isRider : GoodIn wsX2_book wsX2_isRider := goodIn_r _ [7, 8, 9, 10, 6, 11, 12, 13, 14, 15, 33, 34, 35, 36, 37, 38, 39, 40, 41, 42, 43, 44, 45, 46, 47] (by decide +kernel) (by decide +kernel)
set_option maxRecDepth 20000 in
theorem gX2_book_X2_isRider : GoodIn wsX2_book (wsV RX2 78 RX2 yX2_isRider wsX2_isRider) := goodIn_app (goodIn_of _ (by decide +kernel)) ggX2_book_X2_isRider
set_option maxRecDepth 20000 in
theorem ggX2_book_X2_free : GoodIn wsX2_book wsX2_free := goodIn_r _ [19, 20, 21, 22, 6, 23, 2, 33, 34, 35, 36, 37, 38, 39, 40, 41, 42, 43, 44, 45, 46, 47] (by decide +kernel) (by decide +kernel)
set_option maxRecDepth 20000 in
theorem gX2_book_X2_free : GoodIn wsX2_book (wsV RX2 82 RX2 yX2_free wsX2_free) := goodIn_app (goodIn_of _ (by decide +kernel)) ggX2_book_X2_free
set_option maxRecDepth 20000 in
theorem ggX2_book_X2_at : GoodIn wsX2_book wsX2_at := goodIn_r _ [27, 2, 33, 34, 35, 36, 37, 38, 39, 40, 41, 42, 43, 44, 45, 46, 47] (by decide +kernel) (by decide +kernel)
set_option maxRecDepth 20000 in
theorem gX2_book_X2_at : GoodIn wsX2_book (wsV RX2 86 RX2 yX2_at wsX2_at) := goodIn_app (goodIn_of _ (by decide +kernel)) ggX2_book_X2_at
set_option maxRecDepth 20000 in
theorem ggX2_book_X2_fails : GoodIn wsX2_book wsX2_fails := goodIn_r _ [31, 32, 33, 34, 35, 36, 37, 38, 39, 40, 41, 42, 43, 44, 45, 46, 47] (by decide +kernel) (by decide +kernel)
set_option maxRecDepth 20000 in
theorem gX2_book_X2_fails : GoodIn wsX2_book (wsV RX2 62 RX2 yX2_fails wsX2_fails) := goodIn_app (goodIn_of _ (by decide +kernel)) ggX2_book_X2_fails
theorem dX2_book_0 : decode cX2_book 0 = .ok (.aload_n 0, 1) := by decide +kernel
theorem dX2_book_1 : decode cX2_book 1 = .ok (.iload_n 1, 1) := by decide +kernel
theorem dX2_book_2 : decode cX2_book 2 = .ok (.iload_n 2, 1) := by decide +kernel
theorem dX2_book_3 : decode cX2_book 3 = .ok (.invokevirtual 78, 3) := by decide +kernel
theorem dX2_book_6 : decode cX2_book 6 = .ok (.istore_n 3, 1) := by decide +kernel
theorem dX2_book_7 : decode cX2_book 7 = .ok (.aload_n 0, 1) := by decide +kernel
theorem dX2_book_8 : decode cX2_book 8 = .ok (.iload_n 3, 1) := by decide +kernel
theorem dX2_book_9 : decode cX2_book 9 = .ok (.ifCond .ne 7, 3) := by decide +kernel
theorem dX2_book_12 : decode cX2_book 12 = .ok (.iconst 1, 1) := by decide +kernel
theorem dX2_book_13 : decode cX2_book 13 = .ok (.goto 34, 3) := by decide +kernel
theorem dX2_book_16 : decode cX2_book 16 = .ok (.aload_n 0, 1) := by decide +kernel
theorem dX2_book_17 : decode cX2_book 17 = .ok (.getfield 26, 3) := by decide +kernel
theorem dX2_book_20 : decode cX2_book 20 = .ok (.iload_n 1, 1) := by decide +kernel
theorem dX2_book_21 : decode cX2_book 21 = .ok (.baload, 1) := by decide +kernel
theorem dX2_book_22 : decode cX2_book 22 = .ok (.ifCond .ne 20, 3) := by decide +kernel
theorem dX2_book_25 : decode cX2_book 25 = .ok (.aload_n 0, 1) := by decide +kernel
theorem dX2_book_26 : decode cX2_book 26 = .ok (.iload_n 1, 1) := by decide +kernel
theorem dX2_book_27 : decode cX2_book 27 = .ok (.invokevirtual 82, 3) := by decide +kernel
theorem dX2_book_30 : decode cX2_book 30 = .ok (.ifCond .eq 12, 3) := by decide +kernel
theorem dX2_book_33 : decode cX2_book 33 = .ok (.aload_n 0, 1) := by decide +kernel
theorem dX2_book_34 : decode cX2_book 34 = .ok (.iload_n 1, 1) := by decide +kernel
theorem dX2_book_35 : decode cX2_book 35 = .ok (.iload_n 2, 1) := by decide +kernel
theorem dX2_book_36 : decode cX2_book 36 = .ok (.invokevirtual 86, 3) := by decide +kernel
theorem dX2_book_39 : decode cX2_book 39 = .ok (.ifCond .eq 7, 3) := by decide +kernel
theorem dX2_book_42 : decode cX2_book 42 = .ok (.iconst 2, 1) := by decide +kernel
theorem dX2_book_43 : decode cX2_book 43 = .ok (.goto 4, 3) := by decide +kernel
theorem dX2_book_46 : decode cX2_book 46 = .ok (.iconst 0, 1) := by decide +kernel
theorem dX2_book_47 : decode cX2_book 47 = .ok (.invokevirtual 62, 3) := by decide +kernel
theorem dX2_book_50 : decode cX2_book 50 = .ok (.ifCond .eq 5, 3) := by decide +kernel
theorem dX2_book_53 : decode cX2_book 53 = .ok (.iconst 0, 1) := by decide +kernel
theorem dX2_book_54 : decode cX2_book 54 = .ok (.ireturn, 1) := by decide +kernel
theorem dX2_book_55 : decode cX2_book 55 = .ok (.aload_n 0, 1) := by decide +kernel
theorem dX2_book_56 : decode cX2_book 56 = .ok (.getfield 33, 3) := by decide +kernel
theorem dX2_book_59 : decode cX2_book 59 = .ok (.bipush 10, 2) := by decide +kernel
theorem dX2_book_61 : decode cX2_book 61 = .ok (.iload_n 1, 1) := by decide +kernel
theorem dX2_book_62 : decode cX2_book 62 = .ok (.imul, 1) := by decide +kernel
theorem dX2_book_63 : decode cX2_book 63 = .ok (.iload_n 2, 1) := by decide +kernel
theorem dX2_book_64 : decode cX2_book 64 = .ok (.iadd, 1) := by decide +kernel
theorem dX2_book_65 : decode cX2_book 65 = .ok (.iconst 1, 1) := by decide +kernel
theorem dX2_book_66 : decode cX2_book 66 = .ok (.iastore, 1) := by decide +kernel
theorem dX2_book_67 : decode cX2_book 67 = .ok (.aload_n 0, 1) := by decide +kernel
theorem dX2_book_68 : decode cX2_book 68 = .ok (.iload_n 1, 1) := by decide +kernel
theorem dX2_book_69 : decode cX2_book 69 = .ok (.invokevirtual 82, 3) := by decide +kernel
theorem dX2_book_72 : decode cX2_book 72 = .ok (.ireturn, 1) := by decide +kernel
set_option maxRecDepth 20000 in
theorem ggX2_cancel_X2_isRider : GoodIn wsX2_cancel wsX2_isRider := goodIn_r _ [9, 10, 11, 12, 8, 13, 14, 15, 16, 17, 27, 28, 29, 30, 31, 32, 33, 34, 35, 36, 37, 38, 39, 40, 41] (by decide +kernel) (by decide +kernel)
set_option maxRecDepth 20000 in
theorem gX2_cancel_X2_isRider : GoodIn wsX2_cancel (wsV RX2 78 RX2 yX2_isRider wsX2_isRider) := goodIn_app (goodIn_of _ (by decide +kernel)) ggX2_cancel_X2_isRider
set_option maxRecDepth 20000 in
theorem ggX2_cancel_X2_at : GoodIn wsX2_cancel wsX2_at := goodIn_r _ [21, 3, 27, 28, 29, 30, 31, 32, 33, 34, 35, 36, 37, 38, 39, 40, 41] (by decide +kernel) (by decide +kernel)
set_option maxRecDepth 20000 in
theorem gX2_cancel_X2_at : GoodIn wsX2_cancel (wsV RX2 86 RX2 yX2_at wsX2_at) := goodIn_app (goodIn_of _ (by decide +kernel)) ggX2_cancel_X2_at
set_option maxRecDepth 20000 in
theorem ggX2_cancel_X2_fails : GoodIn wsX2_cancel wsX2_fails := goodIn_r _ [25, 26, 27, 28, 29, 30, 31, 32, 33, 34, 35, 36, 37, 38, 39, 40, 41] (by decide +kernel) (by decide +kernel)
set_option maxRecDepth 20000 in
theorem gX2_cancel_X2_fails : GoodIn wsX2_cancel (wsV RX2 62 RX2 yX2_fails wsX2_fails) := goodIn_app (goodIn_of _ (by decide +kernel)) ggX2_cancel_X2_fails
theorem dX2_cancel_0 : decode cX2_cancel 0 = .ok (.aload_n 0, 1) := by decide +kernel
theorem dX2_cancel_1 : decode cX2_cancel 1 = .ok (.iload_n 1, 1) := by decide +kernel
theorem dX2_cancel_2 : decode cX2_cancel 2 = .ok (.iload_n 2, 1) := by decide +kernel
theorem dX2_cancel_3 : decode cX2_cancel 3 = .ok (.invokevirtual 78, 3) := by decide +kernel
theorem dX2_cancel_6 : decode cX2_cancel 6 = .ok (.istore_n 3, 1) := by decide +kernel
theorem dX2_cancel_7 : decode cX2_cancel 7 = .ok (.aload_n 0, 1) := by decide +kernel
theorem dX2_cancel_8 : decode cX2_cancel 8 = .ok (.iload_n 3, 1) := by decide +kernel
theorem dX2_cancel_9 : decode cX2_cancel 9 = .ok (.ifCond .ne 7, 3) := by decide +kernel
theorem dX2_cancel_12 : decode cX2_cancel 12 = .ok (.iconst 1, 1) := by decide +kernel
theorem dX2_cancel_13 : decode cX2_cancel 13 = .ok (.goto 27, 3) := by decide +kernel
theorem dX2_cancel_16 : decode cX2_cancel 16 = .ok (.aload_n 0, 1) := by decide +kernel
theorem dX2_cancel_17 : decode cX2_cancel 17 = .ok (.getfield 26, 3) := by decide +kernel
theorem dX2_cancel_20 : decode cX2_cancel 20 = .ok (.iload_n 1, 1) := by decide +kernel
theorem dX2_cancel_21 : decode cX2_cancel 21 = .ok (.baload, 1) := by decide +kernel
theorem dX2_cancel_22 : decode cX2_cancel 22 = .ok (.ifCond .ne 13, 3) := by decide +kernel
theorem dX2_cancel_25 : decode cX2_cancel 25 = .ok (.aload_n 0, 1) := by decide +kernel
theorem dX2_cancel_26 : decode cX2_cancel 26 = .ok (.iload_n 1, 1) := by decide +kernel
theorem dX2_cancel_27 : decode cX2_cancel 27 = .ok (.iload_n 2, 1) := by decide +kernel
theorem dX2_cancel_28 : decode cX2_cancel 28 = .ok (.invokevirtual 86, 3) := by decide +kernel
theorem dX2_cancel_31 : decode cX2_cancel 31 = .ok (.iconst 1, 1) := by decide +kernel
theorem dX2_cancel_32 : decode cX2_cancel 32 = .ok (.if_icmp .eq 7, 3) := by decide +kernel
theorem dX2_cancel_35 : decode cX2_cancel 35 = .ok (.iconst 2, 1) := by decide +kernel
theorem dX2_cancel_36 : decode cX2_cancel 36 = .ok (.goto 4, 3) := by decide +kernel
theorem dX2_cancel_39 : decode cX2_cancel 39 = .ok (.iconst 0, 1) := by decide +kernel
theorem dX2_cancel_40 : decode cX2_cancel 40 = .ok (.invokevirtual 62, 3) := by decide +kernel
theorem dX2_cancel_43 : decode cX2_cancel 43 = .ok (.ifCond .eq 5, 3) := by decide +kernel
theorem dX2_cancel_46 : decode cX2_cancel 46 = .ok (.iconst 0, 1) := by decide +kernel
theorem dX2_cancel_47 : decode cX2_cancel 47 = .ok (.ireturn, 1) := by decide +kernel
theorem dX2_cancel_48 : decode cX2_cancel 48 = .ok (.aload_n 0, 1) := by decide +kernel
theorem dX2_cancel_49 : decode cX2_cancel 49 = .ok (.getfield 30, 3) := by decide +kernel
theorem dX2_cancel_52 : decode cX2_cancel 52 = .ok (.iload_n 1, 1) := by decide +kernel
theorem dX2_cancel_53 : decode cX2_cancel 53 = .ok (.baload, 1) := by decide +kernel
theorem dX2_cancel_54 : decode cX2_cancel 54 = .ok (.ifCond .eq 9, 3) := by decide +kernel
theorem dX2_cancel_57 : decode cX2_cancel 57 = .ok (.sipush 250, 3) := by decide +kernel
theorem dX2_cancel_60 : decode cX2_cancel 60 = .ok (.goto 4, 3) := by decide +kernel
theorem dX2_cancel_63 : decode cX2_cancel 63 = .ok (.iconst 0, 1) := by decide +kernel
theorem dX2_cancel_64 : decode cX2_cancel 64 = .ok (.istore 4, 2) := by decide +kernel
theorem dX2_cancel_66 : decode cX2_cancel 66 = .ok (.aload_n 0, 1) := by decide +kernel
theorem dX2_cancel_67 : decode cX2_cancel 67 = .ok (.getfield 33, 3) := by decide +kernel
theorem dX2_cancel_70 : decode cX2_cancel 70 = .ok (.bipush 10, 2) := by decide +kernel
theorem dX2_cancel_72 : decode cX2_cancel 72 = .ok (.iload_n 1, 1) := by decide +kernel
theorem dX2_cancel_73 : decode cX2_cancel 73 = .ok (.imul, 1) := by decide +kernel
theorem dX2_cancel_74 : decode cX2_cancel 74 = .ok (.iload_n 2, 1) := by decide +kernel
theorem dX2_cancel_75 : decode cX2_cancel 75 = .ok (.iadd, 1) := by decide +kernel
theorem dX2_cancel_76 : decode cX2_cancel 76 = .ok (.iconst 0, 1) := by decide +kernel
theorem dX2_cancel_77 : decode cX2_cancel 77 = .ok (.iastore, 1) := by decide +kernel
theorem dX2_cancel_78 : decode cX2_cancel 78 = .ok (.aload_n 0, 1) := by decide +kernel
theorem dX2_cancel_79 : decode cX2_cancel 79 = .ok (.getfield 36, 3) := by decide +kernel
theorem dX2_cancel_82 : decode cX2_cancel 82 = .ok (.bipush 10, 2) := by decide +kernel
theorem dX2_cancel_84 : decode cX2_cancel 84 = .ok (.iload_n 1, 1) := by decide +kernel
theorem dX2_cancel_85 : decode cX2_cancel 85 = .ok (.imul, 1) := by decide +kernel
theorem dX2_cancel_86 : decode cX2_cancel 86 = .ok (.iload_n 2, 1) := by decide +kernel
theorem dX2_cancel_87 : decode cX2_cancel 87 = .ok (.iadd, 1) := by decide +kernel
theorem dX2_cancel_88 : decode cX2_cancel 88 = .ok (.dup2, 1) := by decide +kernel
theorem dX2_cancel_89 : decode cX2_cancel 89 = .ok (.iaload, 1) := by decide +kernel
theorem dX2_cancel_90 : decode cX2_cancel 90 = .ok (.iload 4, 2) := by decide +kernel
theorem dX2_cancel_92 : decode cX2_cancel 92 = .ok (.iadd, 1) := by decide +kernel
theorem dX2_cancel_93 : decode cX2_cancel 93 = .ok (.iastore, 1) := by decide +kernel
theorem dX2_cancel_94 : decode cX2_cancel 94 = .ok (.iload 4, 2) := by decide +kernel
theorem dX2_cancel_96 : decode cX2_cancel 96 = .ok (.ireturn, 1) := by decide +kernel
set_option maxRecDepth 20000 in
theorem ggX2_board_X2_isRider : GoodIn wsX2_board wsX2_isRider := goodIn_r _ [7, 8, 9, 10, 6, 11, 12, 13, 14, 15, 33, 34, 35, 36, 37, 38, 39, 40, 41, 42, 43, 44, 45, 46, 47] (by decide +kernel) (by decide +kernel)
set_option maxRecDepth 20000 in
theorem gX2_board_X2_isRider : GoodIn wsX2_board (wsV RX2 78 RX2 yX2_isRider wsX2_isRider) := goodIn_app (goodIn_of _ (by decide +kernel)) ggX2_board_X2_isRider
set_option maxRecDepth 20000 in
theorem ggX2_board_X2_at : GoodIn wsX2_board wsX2_at := goodIn_r _ [19, 2, 33, 34, 35, 36, 37, 38, 39, 40, 41, 42, 43, 44, 45, 46, 47] (by decide +kernel) (by decide +kernel)
set_option maxRecDepth 20000 in
theorem gX2_board_X2_at : GoodIn wsX2_board (wsV RX2 86 RX2 yX2_at wsX2_at) := goodIn_app (goodIn_of _ (by decide +kernel)) ggX2_board_X2_at
set_option maxRecDepth 20000 in
theorem ggX2_board_X2_free : GoodIn wsX2_board wsX2_free := goodIn_r _ [23, 24, 25, 26, 6, 27, 2, 33, 34, 35, 36, 37, 38, 39, 40, 41, 42, 43, 44, 45, 46, 47] (by decide +kernel) (by decide +kernel)
set_option maxRecDepth 20000 in
theorem gX2_board_X2_free : GoodIn wsX2_board (wsV RX2 82 RX2 yX2_free wsX2_free) := goodIn_app (goodIn_of _ (by decide +kernel)) ggX2_board_X2_free
set_option maxRecDepth 20000 in
theorem ggX2_board_X2_fails : GoodIn wsX2_board wsX2_fails := goodIn_r _ [31, 32, 33, 34, 35, 36, 37, 38, 39, 40, 41, 42, 43, 44, 45, 46, 47] (by decide +kernel) (by decide +kernel)
set_option maxRecDepth 20000 in
theorem gX2_board_X2_fails : GoodIn wsX2_board (wsV RX2 62 RX2 yX2_fails wsX2_fails) := goodIn_app (goodIn_of _ (by decide +kernel)) ggX2_board_X2_fails
set_option maxRecDepth 20000 in
theorem ggX2_board_X2_many : GoodIn wsX2_board wsX2_many := goodIn_r _ [27, 2, 33, 34, 35, 36, 37, 38, 39, 40, 41, 42, 43, 44, 45, 46, 47] (by decide +kernel) (by decide +kernel)
set_option maxRecDepth 20000 in
theorem gX2_board_X2_many : GoodIn wsX2_board (wsV RX2 74 RX2 yX2_many wsX2_many) := goodIn_app (goodIn_of _ (by decide +kernel)) ggX2_board_X2_many
theorem dX2_board_0 : decode cX2_board 0 = .ok (.aload_n 0, 1) := by decide +kernel
theorem dX2_board_1 : decode cX2_board 1 = .ok (.iload_n 1, 1) := by decide +kernel
theorem dX2_board_2 : decode cX2_board 2 = .ok (.iload_n 2, 1) := by decide +kernel
theorem dX2_board_3 : decode cX2_board 3 = .ok (.invokevirtual 78, 3) := by decide +kernel
theorem dX2_board_6 : decode cX2_board 6 = .ok (.istore_n 3, 1) := by decide +kernel
theorem dX2_board_7 : decode cX2_board 7 = .ok (.iload_n 3, 1) := by decide +kernel
theorem dX2_board_8 : decode cX2_board 8 = .ok (.ifCond .eq 44, 3) := by decide +kernel
theorem dX2_board_11 : decode cX2_board 11 = .ok (.aload_n 0, 1) := by decide +kernel
theorem dX2_board_12 : decode cX2_board 12 = .ok (.getfield 26, 3) := by decide +kernel
theorem dX2_board_15 : decode cX2_board 15 = .ok (.iload_n 1, 1) := by decide +kernel
theorem dX2_board_16 : decode cX2_board 16 = .ok (.baload, 1) := by decide +kernel
theorem dX2_board_17 : decode cX2_board 17 = .ok (.ifCond .ne 35, 3) := by decide +kernel
theorem dX2_board_20 : decode cX2_board 20 = .ok (.aload_n 0, 1) := by decide +kernel
theorem dX2_board_21 : decode cX2_board 21 = .ok (.iload_n 1, 1) := by decide +kernel
theorem dX2_board_22 : decode cX2_board 22 = .ok (.iload_n 2, 1) := by decide +kernel
theorem dX2_board_23 : decode cX2_board 23 = .ok (.invokevirtual 86, 3) := by decide +kernel
theorem dX2_board_26 : decode cX2_board 26 = .ok (.iconst 2, 1) := by decide +kernel
theorem dX2_board_27 : decode cX2_board 27 = .ok (.if_icmp .eq 25, 3) := by decide +kernel
theorem dX2_board_30 : decode cX2_board 30 = .ok (.aload_n 0, 1) := by decide +kernel
theorem dX2_board_31 : decode cX2_board 31 = .ok (.iload_n 1, 1) := by decide +kernel
theorem dX2_board_32 : decode cX2_board 32 = .ok (.iload_n 2, 1) := by decide +kernel
theorem dX2_board_33 : decode cX2_board 33 = .ok (.invokevirtual 86, 3) := by decide +kernel
theorem dX2_board_36 : decode cX2_board 36 = .ok (.iconst 1, 1) := by decide +kernel
theorem dX2_board_37 : decode cX2_board 37 = .ok (.if_icmp .eq 11, 3) := by decide +kernel
theorem dX2_board_40 : decode cX2_board 40 = .ok (.aload_n 0, 1) := by decide +kernel
theorem dX2_board_41 : decode cX2_board 41 = .ok (.iload_n 1, 1) := by decide +kernel
theorem dX2_board_42 : decode cX2_board 42 = .ok (.invokevirtual 82, 3) := by decide +kernel
theorem dX2_board_45 : decode cX2_board 45 = .ok (.ifCond .le 7, 3) := by decide +kernel
theorem dX2_board_48 : decode cX2_board 48 = .ok (.iconst 1, 1) := by decide +kernel
theorem dX2_board_49 : decode cX2_board 49 = .ok (.goto 4, 3) := by decide +kernel
theorem dX2_board_52 : decode cX2_board 52 = .ok (.iconst 0, 1) := by decide +kernel
theorem dX2_board_53 : decode cX2_board 53 = .ok (.istore 4, 2) := by decide +kernel
theorem dX2_board_55 : decode cX2_board 55 = .ok (.aload_n 0, 1) := by decide +kernel
theorem dX2_board_56 : decode cX2_board 56 = .ok (.iload_n 3, 1) := by decide +kernel
theorem dX2_board_57 : decode cX2_board 57 = .ok (.ifCond .ne 7, 3) := by decide +kernel
theorem dX2_board_60 : decode cX2_board 60 = .ok (.iconst 1, 1) := by decide +kernel
theorem dX2_board_61 : decode cX2_board 61 = .ok (.goto 13, 3) := by decide +kernel
theorem dX2_board_64 : decode cX2_board 64 = .ok (.iload 4, 2) := by decide +kernel
theorem dX2_board_66 : decode cX2_board 66 = .ok (.ifCond .eq 7, 3) := by decide +kernel
theorem dX2_board_69 : decode cX2_board 69 = .ok (.iconst 0, 1) := by decide +kernel
theorem dX2_board_70 : decode cX2_board 70 = .ok (.goto 4, 3) := by decide +kernel
theorem dX2_board_73 : decode cX2_board 73 = .ok (.iconst 2, 1) := by decide +kernel
theorem dX2_board_74 : decode cX2_board 74 = .ok (.invokevirtual 62, 3) := by decide +kernel
theorem dX2_board_77 : decode cX2_board 77 = .ok (.ifCond .eq 5, 3) := by decide +kernel
theorem dX2_board_80 : decode cX2_board 80 = .ok (.iconst 0, 1) := by decide +kernel
theorem dX2_board_81 : decode cX2_board 81 = .ok (.ireturn, 1) := by decide +kernel
theorem dX2_board_82 : decode cX2_board 82 = .ok (.aload_n 0, 1) := by decide +kernel
theorem dX2_board_83 : decode cX2_board 83 = .ok (.getfield 33, 3) := by decide +kernel
theorem dX2_board_86 : decode cX2_board 86 = .ok (.bipush 10, 2) := by decide +kernel
theorem dX2_board_88 : decode cX2_board 88 = .ok (.iload_n 1, 1) := by decide +kernel
theorem dX2_board_89 : decode cX2_board 89 = .ok (.imul, 1) := by decide +kernel
theorem dX2_board_90 : decode cX2_board 90 = .ok (.iload_n 2, 1) := by decide +kernel
theorem dX2_board_91 : decode cX2_board 91 = .ok (.iadd, 1) := by decide +kernel
theorem dX2_board_92 : decode cX2_board 92 = .ok (.iconst 2, 1) := by decide +kernel
theorem dX2_board_93 : decode cX2_board 93 = .ok (.iastore, 1) := by decide +kernel
theorem dX2_board_94 : decode cX2_board 94 = .ok (.aload_n 0, 1) := by decide +kernel
theorem dX2_board_95 : decode cX2_board 95 = .ok (.iload_n 1, 1) := by decide +kernel
theorem dX2_board_96 : decode cX2_board 96 = .ok (.iconst 2, 1) := by decide +kernel
theorem dX2_board_97 : decode cX2_board 97 = .ok (.invokevirtual 74, 3) := by decide +kernel
theorem dX2_board_100 : decode cX2_board 100 = .ok (.ireturn, 1) := by decide +kernel
set_option maxRecDepth 20000 in
theorem ggX2_leave_X2_isRider : GoodIn wsX2_leave wsX2_isRider := goodIn_r _ [8, 9, 10, 11, 7, 12, 13, 14, 15, 16, 26, 27, 28, 29, 30, 31, 32, 33, 34, 35, 36, 37, 38, 39, 40] (by decide +kernel) (by decide +kernel)
set_option maxRecDepth 20000 in
theorem gX2_leave_X2_isRider : GoodIn wsX2_leave (wsV RX2 78 RX2 yX2_isRider wsX2_isRider) := goodIn_app (goodIn_of _ (by decide +kernel)) ggX2_leave_X2_isRider
set_option maxRecDepth 20000 in
theorem ggX2_leave_X2_at : GoodIn wsX2_leave wsX2_at := goodIn_r _ [20, 2, 26, 27, 28, 29, 30, 31, 32, 33, 34, 35, 36, 37, 38, 39, 40] (by decide +kernel) (by decide +kernel)
set_option maxRecDepth 20000 in
theorem gX2_leave_X2_at : GoodIn wsX2_leave (wsV RX2 86 RX2 yX2_at wsX2_at) := goodIn_app (goodIn_of _ (by decide +kernel)) ggX2_leave_X2_at
set_option maxRecDepth 20000 in
theorem ggX2_leave_X2_fails : GoodIn wsX2_leave wsX2_fails := goodIn_r _ [24, 25, 26, 27, 28, 29, 30, 31, 32, 33, 34, 35, 36, 37, 38, 39, 40] (by decide +kernel) (by decide +kernel)
set_option maxRecDepth 20000 in
theorem gX2_leave_X2_fails : GoodIn wsX2_leave (wsV RX2 62 RX2 yX2_fails wsX2_fails) := goodIn_app (goodIn_of _ (by decide +kernel)) ggX2_leave_X2_fails
theorem dX2_leave_0 : decode cX2_leave 0 = .ok (.aload_n 0, 1) := by decide +kernel
theorem dX2_leave_1 : decode cX2_leave 1 = .ok (.iload_n 1, 1) := by decide +kernel
theorem dX2_leave_2 : decode cX2_leave 2 = .ok (.iload_n 2, 1) := by decide +kernel
theorem dX2_leave_3 : decode cX2_leave 3 = .ok (.invokevirtual 78, 3) := by decide +kernel
theorem dX2_leave_6 : decode cX2_leave 6 = .ok (.istore_n 3, 1) := by decide +kernel
theorem dX2_leave_7 : decode cX2_leave 7 = .ok (.aload_n 0, 1) := by decide +kernel
theorem dX2_leave_8 : decode cX2_leave 8 = .ok (.iload_n 3, 1) := by decide +kernel
theorem dX2_leave_9 : decode cX2_leave 9 = .ok (.ifCond .ne 7, 3) := by decide +kernel
theorem dX2_leave_12 : decode cX2_leave 12 = .ok (.iconst 1, 1) := by decide +kernel
theorem dX2_leave_13 : decode cX2_leave 13 = .ok (.goto 27, 3) := by decide +kernel
theorem dX2_leave_16 : decode cX2_leave 16 = .ok (.aload_n 0, 1) := by decide +kernel
theorem dX2_leave_17 : decode cX2_leave 17 = .ok (.getfield 26, 3) := by decide +kernel
theorem dX2_leave_20 : decode cX2_leave 20 = .ok (.iload_n 1, 1) := by decide +kernel
theorem dX2_leave_21 : decode cX2_leave 21 = .ok (.baload, 1) := by decide +kernel
theorem dX2_leave_22 : decode cX2_leave 22 = .ok (.ifCond .ne 13, 3) := by decide +kernel
theorem dX2_leave_25 : decode cX2_leave 25 = .ok (.aload_n 0, 1) := by decide +kernel
theorem dX2_leave_26 : decode cX2_leave 26 = .ok (.iload_n 1, 1) := by decide +kernel
theorem dX2_leave_27 : decode cX2_leave 27 = .ok (.iload_n 2, 1) := by decide +kernel
theorem dX2_leave_28 : decode cX2_leave 28 = .ok (.invokevirtual 86, 3) := by decide +kernel
theorem dX2_leave_31 : decode cX2_leave 31 = .ok (.iconst 2, 1) := by decide +kernel
theorem dX2_leave_32 : decode cX2_leave 32 = .ok (.if_icmp .eq 7, 3) := by decide +kernel
theorem dX2_leave_35 : decode cX2_leave 35 = .ok (.iconst 2, 1) := by decide +kernel
theorem dX2_leave_36 : decode cX2_leave 36 = .ok (.goto 4, 3) := by decide +kernel
theorem dX2_leave_39 : decode cX2_leave 39 = .ok (.iconst 0, 1) := by decide +kernel
theorem dX2_leave_40 : decode cX2_leave 40 = .ok (.invokevirtual 62, 3) := by decide +kernel
theorem dX2_leave_43 : decode cX2_leave 43 = .ok (.ifCond .eq 5, 3) := by decide +kernel
theorem dX2_leave_46 : decode cX2_leave 46 = .ok (.iconst 0, 1) := by decide +kernel
theorem dX2_leave_47 : decode cX2_leave 47 = .ok (.ireturn, 1) := by decide +kernel
theorem dX2_leave_48 : decode cX2_leave 48 = .ok (.aload_n 0, 1) := by decide +kernel
theorem dX2_leave_49 : decode cX2_leave 49 = .ok (.getfield 33, 3) := by decide +kernel
theorem dX2_leave_52 : decode cX2_leave 52 = .ok (.bipush 10, 2) := by decide +kernel
theorem dX2_leave_54 : decode cX2_leave 54 = .ok (.iload_n 1, 1) := by decide +kernel
theorem dX2_leave_55 : decode cX2_leave 55 = .ok (.imul, 1) := by decide +kernel
theorem dX2_leave_56 : decode cX2_leave 56 = .ok (.iload_n 2, 1) := by decide +kernel
theorem dX2_leave_57 : decode cX2_leave 57 = .ok (.iadd, 1) := by decide +kernel
theorem dX2_leave_58 : decode cX2_leave 58 = .ok (.iconst 0, 1) := by decide +kernel
theorem dX2_leave_59 : decode cX2_leave 59 = .ok (.iastore, 1) := by decide +kernel
theorem dX2_leave_60 : decode cX2_leave 60 = .ok (.aload_n 0, 1) := by decide +kernel
theorem dX2_leave_61 : decode cX2_leave 61 = .ok (.getfield 36, 3) := by decide +kernel
theorem dX2_leave_64 : decode cX2_leave 64 = .ok (.bipush 10, 2) := by decide +kernel
theorem dX2_leave_66 : decode cX2_leave 66 = .ok (.iload_n 1, 1) := by decide +kernel
theorem dX2_leave_67 : decode cX2_leave 67 = .ok (.imul, 1) := by decide +kernel
theorem dX2_leave_68 : decode cX2_leave 68 = .ok (.iload_n 2, 1) := by decide +kernel
theorem dX2_leave_69 : decode cX2_leave 69 = .ok (.iadd, 1) := by decide +kernel
theorem dX2_leave_70 : decode cX2_leave 70 = .ok (.iaload, 1) := by decide +kernel
theorem dX2_leave_71 : decode cX2_leave 71 = .ok (.ireturn, 1) := by decide +kernel
set_option maxRecDepth 20000 in
theorem ggX2_drive_X2_isIn : GoodIn wsX2_drive wsX2_isIn := goodIn_r _ [10] (by decide +kernel) (by decide +kernel)
set_option maxRecDepth 20000 in
theorem gX2_drive_X2_isIn : GoodIn wsX2_drive (va_wsS RX2 54 yX2_isIn wsX2_isIn) := goodIn_app (goodIn_of _ (by decide +kernel)) ggX2_drive_X2_isIn
set_option maxRecDepth 20000 in
theorem ggX2_drive_X2_isRide : GoodIn wsX2_drive wsX2_isRide := goodIn_r _ [14, 15, 7, 8, 9, 10, 30, 31, 32, 33, 34, 35, 36, 37, 38, 39, 40, 41, 42, 43, 44] (by decide +kernel) (by decide +kernel)
set_option maxRecDepth 20000 in
theorem gX2_drive_X2_isRide : GoodIn wsX2_drive (wsV RX2 58 RX2 yX2_isRide wsX2_isRide) := goodIn_app (goodIn_of _ (by decide +kernel)) ggX2_drive_X2_isRide
set_option maxRecDepth 20000 in
theorem ggX2_drive_X2_fails : GoodIn wsX2_drive wsX2_fails := goodIn_r _ [19, 20, 30, 31, 32, 33, 34, 35, 36, 37, 38, 39, 40, 41, 42, 43, 44] (by decide +kernel) (by decide +kernel)
set_option maxRecDepth 20000 in
theorem gX2_drive_X2_fails : GoodIn wsX2_drive (wsV RX2 62 RX2 yX2_fails wsX2_fails) := goodIn_app (goodIn_of _ (by decide +kernel)) ggX2_drive_X2_fails
set_option maxRecDepth 20000 in
theorem ggX2_drive_X2_many : GoodIn wsX2_drive wsX2_many := goodIn_r _ [24, 25, 30, 31, 32, 33, 34, 35, 36, 37, 38, 39, 40, 41, 42, 43, 44] (by decide +kernel) (by decide +kernel)
set_option maxRecDepth 20000 in
theorem gX2_drive_X2_many : GoodIn wsX2_drive (wsV RX2 74 RX2 yX2_many wsX2_many) := goodIn_app (goodIn_of _ (by decide +kernel)) ggX2_drive_X2_many
set_option maxRecDepth 20000 in
theorem ggX2_drive_X2_at : GoodIn wsX2_drive wsX2_at := goodIn_r _ [29, 25, 30, 31, 32, 33, 34, 35, 36, 37, 38, 39, 40, 41, 42, 43, 44] (by decide +kernel) (by decide +kernel)
set_option maxRecDepth 20000 in
theorem gX2_drive_X2_at : GoodIn wsX2_drive (wsV RX2 86 RX2 yX2_at wsX2_at) := goodIn_app (goodIn_of _ (by decide +kernel)) ggX2_drive_X2_at
theorem dX2_drive_0 : decode cX2_drive 0 = .ok (.iload_n 2, 1) := by decide +kernel
theorem dX2_drive_1 : decode cX2_drive 1 = .ok (.iconst 0, 1) := by decide +kernel
theorem dX2_drive_2 : decode cX2_drive 2 = .ok (.bipush 100, 2) := by decide +kernel
theorem dX2_drive_4 : decode cX2_drive 4 = .ok (.invokestatic 54, 3) := by decide +kernel
theorem dX2_drive_7 : decode cX2_drive 7 = .ok (.ifCond .eq 17, 3) := by decide +kernel
theorem dX2_drive_10 : decode cX2_drive 10 = .ok (.iload_n 3, 1) := by decide +kernel
theorem dX2_drive_11 : decode cX2_drive 11 = .ok (.iconst 1, 1) := by decide +kernel
theorem dX2_drive_12 : decode cX2_drive 12 = .ok (.bipush 120, 2) := by decide +kernel
theorem dX2_drive_14 : decode cX2_drive 14 = .ok (.invokestatic 54, 3) := by decide +kernel
theorem dX2_drive_17 : decode cX2_drive 17 = .ok (.ifCond .eq 7, 3) := by decide +kernel
theorem dX2_drive_20 : decode cX2_drive 20 = .ok (.iconst 1, 1) := by decide +kernel
theorem dX2_drive_21 : decode cX2_drive 21 = .ok (.goto 4, 3) := by decide +kernel
theorem dX2_drive_24 : decode cX2_drive 24 = .ok (.iconst 0, 1) := by decide +kernel
theorem dX2_drive_25 : decode cX2_drive 25 = .ok (.istore 4, 2) := by decide +kernel
theorem dX2_drive_27 : decode cX2_drive 27 = .ok (.aload_n 0, 1) := by decide +kernel
theorem dX2_drive_28 : decode cX2_drive 28 = .ok (.aload_n 0, 1) := by decide +kernel
theorem dX2_drive_29 : decode cX2_drive 29 = .ok (.iload_n 1, 1) := by decide +kernel
theorem dX2_drive_30 : decode cX2_drive 30 = .ok (.invokevirtual 58, 3) := by decide +kernel
theorem dX2_drive_33 : decode cX2_drive 33 = .ok (.ifCond .ne 7, 3) := by decide +kernel
theorem dX2_drive_36 : decode cX2_drive 36 = .ok (.iconst 1, 1) := by decide +kernel
theorem dX2_drive_37 : decode cX2_drive 37 = .ok (.goto 26, 3) := by decide +kernel
theorem dX2_drive_40 : decode cX2_drive 40 = .ok (.iload 4, 2) := by decide +kernel
theorem dX2_drive_42 : decode cX2_drive 42 = .ok (.ifCond .ne 7, 3) := by decide +kernel
theorem dX2_drive_45 : decode cX2_drive 45 = .ok (.iconst 2, 1) := by decide +kernel
theorem dX2_drive_46 : decode cX2_drive 46 = .ok (.goto 17, 3) := by decide +kernel
theorem dX2_drive_49 : decode cX2_drive 49 = .ok (.aload_n 0, 1) := by decide +kernel
theorem dX2_drive_50 : decode cX2_drive 50 = .ok (.getfield 26, 3) := by decide +kernel
theorem dX2_drive_53 : decode cX2_drive 53 = .ok (.iload_n 1, 1) := by decide +kernel
theorem dX2_drive_54 : decode cX2_drive 54 = .ok (.baload, 1) := by decide +kernel
theorem dX2_drive_55 : decode cX2_drive 55 = .ok (.ifCond .eq 7, 3) := by decide +kernel
theorem dX2_drive_58 : decode cX2_drive 58 = .ok (.iconst 3, 1) := by decide +kernel
theorem dX2_drive_59 : decode cX2_drive 59 = .ok (.goto 4, 3) := by decide +kernel
theorem dX2_drive_62 : decode cX2_drive 62 = .ok (.iconst 0, 1) := by decide +kernel
theorem dX2_drive_63 : decode cX2_drive 63 = .ok (.invokevirtual 62, 3) := by decide +kernel
theorem dX2_drive_66 : decode cX2_drive 66 = .ok (.ifCond .eq 5, 3) := by decide +kernel
theorem dX2_drive_69 : decode cX2_drive 69 = .ok (.iconst 0, 1) := by decide +kernel
theorem dX2_drive_70 : decode cX2_drive 70 = .ok (.ireturn, 1) := by decide +kernel
theorem dX2_drive_71 : decode cX2_drive 71 = .ok (.aload_n 0, 1) := by decide +kernel
theorem dX2_drive_72 : decode cX2_drive 72 = .ok (.getfield 30, 3) := by decide +kernel
theorem dX2_drive_75 : decode cX2_drive 75 = .ok (.iload_n 1, 1) := by decide +kernel
theorem dX2_drive_76 : decode cX2_drive 76 = .ok (.iconst 1, 1) := by decide +kernel
theorem dX2_drive_77 : decode cX2_drive 77 = .ok (.bastore, 1) := by decide +kernel
theorem dX2_drive_78 : decode cX2_drive 78 = .ok (.aload_n 0, 1) := by decide +kernel
theorem dX2_drive_79 : decode cX2_drive 79 = .ok (.getfield 23, 3) := by decide +kernel
theorem dX2_drive_82 : decode cX2_drive 82 = .ok (.iload_n 1, 1) := by decide +kernel
theorem dX2_drive_83 : decode cX2_drive 83 = .ok (.dup2, 1) := by decide +kernel
theorem dX2_drive_84 : decode cX2_drive 84 = .ok (.iaload, 1) := by decide +kernel
theorem dX2_drive_85 : decode cX2_drive 85 = .ok (.iload_n 3, 1) := by decide +kernel
theorem dX2_drive_86 : decode cX2_drive 86 = .ok (.iadd, 1) := by decide +kernel
theorem dX2_drive_87 : decode cX2_drive 87 = .ok (.iastore, 1) := by decide +kernel
theorem dX2_drive_88 : decode cX2_drive 88 = .ok (.aload_n 0, 1) := by decide +kernel
theorem dX2_drive_89 : decode cX2_drive 89 = .ok (.iload_n 1, 1) := by decide +kernel
theorem dX2_drive_90 : decode cX2_drive 90 = .ok (.iconst 2, 1) := by decide +kernel
theorem dX2_drive_91 : decode cX2_drive 91 = .ok (.invokevirtual 74, 3) := by decide +kernel
theorem dX2_drive_94 : decode cX2_drive 94 = .ok (.istore 5, 2) := by decide +kernel
theorem dX2_drive_96 : decode cX2_drive 96 = .ok (.iload 5, 2) := by decide +kernel
theorem dX2_drive_98 : decode cX2_drive 98 = .ok (.ifCond .ne 7, 3) := by decide +kernel
theorem dX2_drive_101 : decode cX2_drive 101 = .ok (.iconst 0, 1) := by decide +kernel
theorem dX2_drive_102 : decode cX2_drive 102 = .ok (.goto 16, 3) := by decide +kernel
theorem dX2_drive_105 : decode cX2_drive 105 = .ok (.iload_n 2, 1) := by decide +kernel
theorem dX2_drive_106 : decode cX2_drive 106 = .ok (.aload_n 0, 1) := by decide +kernel
theorem dX2_drive_107 : decode cX2_drive 107 = .ok (.getfield 7, 3) := by decide +kernel
theorem dX2_drive_110 : decode cX2_drive 110 = .ok (.imul, 1) := by decide +kernel
theorem dX2_drive_111 : decode cX2_drive 111 = .ok (.iload_n 3, 1) := by decide +kernel
theorem dX2_drive_112 : decode cX2_drive 112 = .ok (.aload_n 0, 1) := by decide +kernel
theorem dX2_drive_113 : decode cX2_drive 113 = .ok (.getfield 13, 3) := by decide +kernel
theorem dX2_drive_116 : decode cX2_drive 116 = .ok (.imul, 1) := by decide +kernel
theorem dX2_drive_117 : decode cX2_drive 117 = .ok (.iadd, 1) := by decide +kernel
theorem dX2_drive_118 : decode cX2_drive 118 = .ok (.istore 6, 2) := by decide +kernel
theorem dX2_drive_120 : decode cX2_drive 120 = .ok (.iload 5, 2) := by decide +kernel
theorem dX2_drive_122 : decode cX2_drive 122 = .ok (.ifCond .ne 7, 3) := by decide +kernel
theorem dX2_drive_125 : decode cX2_drive 125 = .ok (.iconst 0, 1) := by decide +kernel
theorem dX2_drive_126 : decode cX2_drive 126 = .ok (.goto 8, 3) := by decide +kernel
theorem dX2_drive_129 : decode cX2_drive 129 = .ok (.iload 6, 2) := by decide +kernel
theorem dX2_drive_131 : decode cX2_drive 131 = .ok (.iload 5, 2) := by decide +kernel
theorem dX2_drive_133 : decode cX2_drive 133 = .ok (.irem, 1) := by decide +kernel
theorem dX2_drive_134 : decode cX2_drive 134 = .ok (.istore 7, 2) := by decide +kernel
theorem dX2_drive_136 : decode cX2_drive 136 = .ok (.iconst 0, 1) := by decide +kernel
theorem dX2_drive_137 : decode cX2_drive 137 = .ok (.istore 8, 2) := by decide +kernel
theorem dX2_drive_139 : decode cX2_drive 139 = .ok (.iload 8, 2) := by decide +kernel
theorem dX2_drive_141 : decode cX2_drive 141 = .ok (.bipush 10, 2) := by decide +kernel
theorem dX2_drive_143 : decode cX2_drive 143 = .ok (.if_icmp .ge 54, 3) := by decide +kernel
theorem dX2_drive_146 : decode cX2_drive 146 = .ok (.aload_n 0, 1) := by decide +kernel
theorem dX2_drive_147 : decode cX2_drive 147 = .ok (.iload_n 1, 1) := by decide +kernel
theorem dX2_drive_148 : decode cX2_drive 148 = .ok (.iload 8, 2) := by decide +kernel
theorem dX2_drive_150 : decode cX2_drive 150 = .ok (.invokevirtual 86, 3) := by decide +kernel
theorem dX2_drive_153 : decode cX2_drive 153 = .ok (.iconst 2, 1) := by decide +kernel
theorem dX2_drive_154 : decode cX2_drive 154 = .ok (.if_icmp .ne 37, 3) := by decide +kernel
theorem dX2_drive_157 : decode cX2_drive 157 = .ok (.aload_n 0, 1) := by decide +kernel
theorem dX2_drive_158 : decode cX2_drive 158 = .ok (.getfield 36, 3) := by decide +kernel
theorem dX2_drive_161 : decode cX2_drive 161 = .ok (.bipush 10, 2) := by decide +kernel
theorem dX2_drive_163 : decode cX2_drive 163 = .ok (.iload_n 1, 1) := by decide +kernel
theorem dX2_drive_164 : decode cX2_drive 164 = .ok (.imul, 1) := by decide +kernel
theorem dX2_drive_165 : decode cX2_drive 165 = .ok (.iload 8, 2) := by decide +kernel
theorem dX2_drive_167 : decode cX2_drive 167 = .ok (.iadd, 1) := by decide +kernel
theorem dX2_drive_168 : decode cX2_drive 168 = .ok (.dup2, 1) := by decide +kernel
theorem dX2_drive_169 : decode cX2_drive 169 = .ok (.iaload, 1) := by decide +kernel
theorem dX2_drive_170 : decode cX2_drive 170 = .ok (.iload 6, 2) := by decide +kernel
theorem dX2_drive_172 : decode cX2_drive 172 = .ok (.iload 5, 2) := by decide +kernel
theorem dX2_drive_174 : decode cX2_drive 174 = .ok (.idiv, 1) := by decide +kernel
theorem dX2_drive_175 : decode cX2_drive 175 = .ok (.iload 7, 2) := by decide +kernel
theorem dX2_drive_177 : decode cX2_drive 177 = .ok (.ifCond .le 7, 3) := by decide +kernel
theorem dX2_drive_180 : decode cX2_drive 180 = .ok (.iconst 1, 1) := by decide +kernel
theorem dX2_drive_181 : decode cX2_drive 181 = .ok (.goto 4, 3) := by decide +kernel
theorem dX2_drive_184 : decode cX2_drive 184 = .ok (.iconst 0, 1) := by decide +kernel
theorem dX2_drive_185 : decode cX2_drive 185 = .ok (.iadd, 1) := by decide +kernel
theorem dX2_drive_186 : decode cX2_drive 186 = .ok (.iadd, 1) := by decide +kernel
theorem dX2_drive_187 : decode cX2_drive 187 = .ok (.iastore, 1) := by decide +kernel
theorem dX2_drive_188 : decode cX2_drive 188 = .ok (.iinc 7 (-1), 3) := by decide +kernel
theorem dX2_drive_191 : decode cX2_drive 191 = .ok (.iinc 8 1, 3) := by decide +kernel
theorem dX2_drive_194 : decode cX2_drive 194 = .ok (.goto (-55), 3) := by decide +kernel
theorem dX2_drive_197 : decode cX2_drive 197 = .ok (.iload 6, 2) := by decide +kernel
theorem dX2_drive_199 : decode cX2_drive 199 = .ok (.ireturn, 1) := by decide +kernel
set_option maxRecDepth 20000 in
theorem ggX2_finish_X2_isRide : GoodIn wsX2_finish wsX2_isRide := goodIn_r _ [8, 9, 10, 11, 7, 12, 22, 23, 24, 25, 26, 27, 28, 29, 30, 31, 32, 33, 34, 35, 36] (by decide +kernel) (by decide +kernel)
set_option maxRecDepth 20000 in
theorem gX2_finish_X2_isRide : GoodIn wsX2_finish (wsV RX2 58 RX2 yX2_isRide wsX2_isRide) := goodIn_app (goodIn_of _ (by decide +kernel)) ggX2_finish_X2_isRide
set_option maxRecDepth 20000 in
theorem ggX2_finish_X2_fails : GoodIn wsX2_finish wsX2_fails := goodIn_r _ [16, 17, 22, 23, 24, 25, 26, 27, 28, 29, 30, 31, 32, 33, 34, 35, 36] (by decide +kernel) (by decide +kernel)
set_option maxRecDepth 20000 in
theorem gX2_finish_X2_fails : GoodIn wsX2_finish (wsV RX2 62 RX2 yX2_fails wsX2_fails) := goodIn_app (goodIn_of _ (by decide +kernel)) ggX2_finish_X2_fails
set_option maxRecDepth 20000 in
theorem ggX2_finish_X2_at : GoodIn wsX2_finish wsX2_at := goodIn_r _ [21, 3, 22, 23, 24, 25, 26, 27, 28, 29, 30, 31, 32, 33, 34, 35, 36] (by decide +kernel) (by decide +kernel)
set_option maxRecDepth 20000 in
theorem gX2_finish_X2_at : GoodIn wsX2_finish (wsV RX2 86 RX2 yX2_at wsX2_at) := goodIn_app (goodIn_of _ (by decide +kernel)) ggX2_finish_X2_at
theorem dX2_finish_0 : decode cX2_finish 0 = .ok (.aload_n 0, 1) := by decide +kernel
theorem dX2_finish_1 : decode cX2_finish 1 = .ok (.aload_n 0, 1) := by decide +kernel
theorem dX2_finish_2 : decode cX2_finish 2 = .ok (.iload_n 1, 1) := by decide +kernel
theorem dX2_finish_3 : decode cX2_finish 3 = .ok (.invokevirtual 58, 3) := by decide +kernel
theorem dX2_finish_6 : decode cX2_finish 6 = .ok (.ifCond .ne 7, 3) := by decide +kernel
theorem dX2_finish_9 : decode cX2_finish 9 = .ok (.iconst 1, 1) := by decide +kernel
theorem dX2_finish_10 : decode cX2_finish 10 = .ok (.goto 17, 3) := by decide +kernel
theorem dX2_finish_13 : decode cX2_finish 13 = .ok (.aload_n 0, 1) := by decide +kernel
theorem dX2_finish_14 : decode cX2_finish 14 = .ok (.getfield 26, 3) := by decide +kernel
theorem dX2_finish_17 : decode cX2_finish 17 = .ok (.iload_n 1, 1) := by decide +kernel
theorem dX2_finish_18 : decode cX2_finish 18 = .ok (.baload, 1) := by decide +kernel
theorem dX2_finish_19 : decode cX2_finish 19 = .ok (.ifCond .eq 7, 3) := by decide +kernel
theorem dX2_finish_22 : decode cX2_finish 22 = .ok (.iconst 2, 1) := by decide +kernel
theorem dX2_finish_23 : decode cX2_finish 23 = .ok (.goto 4, 3) := by decide +kernel
theorem dX2_finish_26 : decode cX2_finish 26 = .ok (.iconst 0, 1) := by decide +kernel
theorem dX2_finish_27 : decode cX2_finish 27 = .ok (.invokevirtual 62, 3) := by decide +kernel
theorem dX2_finish_30 : decode cX2_finish 30 = .ok (.ifCond .eq 5, 3) := by decide +kernel
theorem dX2_finish_33 : decode cX2_finish 33 = .ok (.iconst 0, 1) := by decide +kernel
theorem dX2_finish_34 : decode cX2_finish 34 = .ok (.ireturn, 1) := by decide +kernel
theorem dX2_finish_35 : decode cX2_finish 35 = .ok (.iconst 0, 1) := by decide +kernel
theorem dX2_finish_36 : decode cX2_finish 36 = .ok (.istore_n 2, 1) := by decide +kernel
theorem dX2_finish_37 : decode cX2_finish 37 = .ok (.iconst 0, 1) := by decide +kernel
theorem dX2_finish_38 : decode cX2_finish 38 = .ok (.istore_n 3, 1) := by decide +kernel
theorem dX2_finish_39 : decode cX2_finish 39 = .ok (.iload_n 3, 1) := by decide +kernel
theorem dX2_finish_40 : decode cX2_finish 40 = .ok (.bipush 10, 2) := by decide +kernel
theorem dX2_finish_42 : decode cX2_finish 42 = .ok (.if_icmp .ge 66, 3) := by decide +kernel
theorem dX2_finish_45 : decode cX2_finish 45 = .ok (.aload_n 0, 1) := by decide +kernel
theorem dX2_finish_46 : decode cX2_finish 46 = .ok (.getfield 36, 3) := by decide +kernel
theorem dX2_finish_49 : decode cX2_finish 49 = .ok (.bipush 10, 2) := by decide +kernel
theorem dX2_finish_51 : decode cX2_finish 51 = .ok (.iload_n 1, 1) := by decide +kernel
theorem dX2_finish_52 : decode cX2_finish 52 = .ok (.imul, 1) := by decide +kernel
theorem dX2_finish_53 : decode cX2_finish 53 = .ok (.iload_n 3, 1) := by decide +kernel
theorem dX2_finish_54 : decode cX2_finish 54 = .ok (.iadd, 1) := by decide +kernel
theorem dX2_finish_55 : decode cX2_finish 55 = .ok (.dup2, 1) := by decide +kernel
theorem dX2_finish_56 : decode cX2_finish 56 = .ok (.iaload, 1) := by decide +kernel
theorem dX2_finish_57 : decode cX2_finish 57 = .ok (.aload_n 0, 1) := by decide +kernel
theorem dX2_finish_58 : decode cX2_finish 58 = .ok (.iload_n 1, 1) := by decide +kernel
theorem dX2_finish_59 : decode cX2_finish 59 = .ok (.iload_n 3, 1) := by decide +kernel
theorem dX2_finish_60 : decode cX2_finish 60 = .ok (.invokevirtual 86, 3) := by decide +kernel
theorem dX2_finish_63 : decode cX2_finish 63 = .ok (.iconst 1, 1) := by decide +kernel
theorem dX2_finish_64 : decode cX2_finish 64 = .ok (.if_icmp .ne 9, 3) := by decide +kernel
theorem dX2_finish_67 : decode cX2_finish 67 = .ok (.sipush 400, 3) := by decide +kernel
theorem dX2_finish_70 : decode cX2_finish 70 = .ok (.goto 4, 3) := by decide +kernel
theorem dX2_finish_73 : decode cX2_finish 73 = .ok (.iconst 0, 1) := by decide +kernel
theorem dX2_finish_74 : decode cX2_finish 74 = .ok (.iadd, 1) := by decide +kernel
theorem dX2_finish_75 : decode cX2_finish 75 = .ok (.iastore, 1) := by decide +kernel
theorem dX2_finish_76 : decode cX2_finish 76 = .ok (.aload_n 0, 1) := by decide +kernel
theorem dX2_finish_77 : decode cX2_finish 77 = .ok (.getfield 33, 3) := by decide +kernel
theorem dX2_finish_80 : decode cX2_finish 80 = .ok (.bipush 10, 2) := by decide +kernel
theorem dX2_finish_82 : decode cX2_finish 82 = .ok (.iload_n 1, 1) := by decide +kernel
theorem dX2_finish_83 : decode cX2_finish 83 = .ok (.imul, 1) := by decide +kernel
theorem dX2_finish_84 : decode cX2_finish 84 = .ok (.iload_n 3, 1) := by decide +kernel
theorem dX2_finish_85 : decode cX2_finish 85 = .ok (.iadd, 1) := by decide +kernel
theorem dX2_finish_86 : decode cX2_finish 86 = .ok (.iconst 0, 1) := by decide +kernel
theorem dX2_finish_87 : decode cX2_finish 87 = .ok (.iastore, 1) := by decide +kernel
theorem dX2_finish_88 : decode cX2_finish 88 = .ok (.iload_n 2, 1) := by decide +kernel
theorem dX2_finish_89 : decode cX2_finish 89 = .ok (.aload_n 0, 1) := by decide +kernel
theorem dX2_finish_90 : decode cX2_finish 90 = .ok (.getfield 36, 3) := by decide +kernel
theorem dX2_finish_93 : decode cX2_finish 93 = .ok (.bipush 10, 2) := by decide +kernel
theorem dX2_finish_95 : decode cX2_finish 95 = .ok (.iload_n 1, 1) := by decide +kernel
theorem dX2_finish_96 : decode cX2_finish 96 = .ok (.imul, 1) := by decide +kernel
theorem dX2_finish_97 : decode cX2_finish 97 = .ok (.iload_n 3, 1) := by decide +kernel
theorem dX2_finish_98 : decode cX2_finish 98 = .ok (.iadd, 1) := by decide +kernel
theorem dX2_finish_99 : decode cX2_finish 99 = .ok (.iaload, 1) := by decide +kernel
theorem dX2_finish_100 : decode cX2_finish 100 = .ok (.iadd, 1) := by decide +kernel
theorem dX2_finish_101 : decode cX2_finish 101 = .ok (.istore_n 2, 1) := by decide +kernel
theorem dX2_finish_102 : decode cX2_finish 102 = .ok (.iinc 3 1, 3) := by decide +kernel
theorem dX2_finish_105 : decode cX2_finish 105 = .ok (.goto (-66), 3) := by decide +kernel
theorem dX2_finish_108 : decode cX2_finish 108 = .ok (.aload_n 0, 1) := by decide +kernel
theorem dX2_finish_109 : decode cX2_finish 109 = .ok (.getfield 26, 3) := by decide +kernel
theorem dX2_finish_112 : decode cX2_finish 112 = .ok (.iload_n 1, 1) := by decide +kernel
theorem dX2_finish_113 : decode cX2_finish 113 = .ok (.iconst 1, 1) := by decide +kernel
theorem dX2_finish_114 : decode cX2_finish 114 = .ok (.bastore, 1) := by decide +kernel
theorem dX2_finish_115 : decode cX2_finish 115 = .ok (.iload_n 2, 1) := by decide +kernel
theorem dX2_finish_116 : decode cX2_finish 116 = .ok (.ireturn, 1) := by decide +kernel
set_option maxRecDepth 20000 in
theorem ggX2_aboard_X2_isRide : GoodIn wsX2_aboard wsX2_isRide := goodIn_r _ [5, 6, 7, 8, 4, 9, 20, 21, 22, 23, 24, 25, 26, 27, 28, 29, 30, 31, 32, 33, 34] (by decide +kernel) (by decide +kernel)
set_option maxRecDepth 20000 in
theorem gX2_aboard_X2_isRide : GoodIn wsX2_aboard (wsV RX2 58 RX2 yX2_isRide wsX2_isRide) := goodIn_app (goodIn_of _ (by decide +kernel)) ggX2_aboard_X2_isRide
set_option maxRecDepth 20000 in
theorem ggX2_aboard_X2_fails : GoodIn wsX2_aboard wsX2_fails := goodIn_r _ [13, 14, 20, 21, 22, 23, 24, 25, 26, 27, 28, 29, 30, 31, 32, 33, 34] (by decide +kernel) (by decide +kernel)
set_option maxRecDepth 20000 in
theorem gX2_aboard_X2_fails : GoodIn wsX2_aboard (wsV RX2 62 RX2 yX2_fails wsX2_fails) := goodIn_app (goodIn_of _ (by decide +kernel)) ggX2_aboard_X2_fails
set_option maxRecDepth 20000 in
theorem ggX2_aboard_X2_at : GoodIn wsX2_aboard wsX2_at := goodIn_r _ [18, 19, 20, 21, 22, 23, 24, 25, 26, 27, 28, 29, 30, 31, 32, 33, 34] (by decide +kernel) (by decide +kernel)
set_option maxRecDepth 20000 in
theorem gX2_aboard_X2_at : GoodIn wsX2_aboard (wsV RX2 86 RX2 yX2_at wsX2_at) := goodIn_app (goodIn_of _ (by decide +kernel)) ggX2_aboard_X2_at
theorem dX2_aboard_0 : decode cX2_aboard 0 = .ok (.aload_n 0, 1) := by decide +kernel
theorem dX2_aboard_1 : decode cX2_aboard 1 = .ok (.aload_n 0, 1) := by decide +kernel
theorem dX2_aboard_2 : decode cX2_aboard 2 = .ok (.iload_n 1, 1) := by decide +kernel
theorem dX2_aboard_3 : decode cX2_aboard 3 = .ok (.invokevirtual 58, 3) := by decide +kernel
theorem dX2_aboard_6 : decode cX2_aboard 6 = .ok (.ifCond .eq 7, 3) := by decide +kernel
theorem dX2_aboard_9 : decode cX2_aboard 9 = .ok (.iconst 0, 1) := by decide +kernel
theorem dX2_aboard_10 : decode cX2_aboard 10 = .ok (.goto 4, 3) := by decide +kernel
theorem dX2_aboard_13 : decode cX2_aboard 13 = .ok (.iconst 1, 1) := by decide +kernel
theorem dX2_aboard_14 : decode cX2_aboard 14 = .ok (.invokevirtual 62, 3) := by decide +kernel
theorem dX2_aboard_17 : decode cX2_aboard 17 = .ok (.ifCond .eq 5, 3) := by decide +kernel
theorem dX2_aboard_20 : decode cX2_aboard 20 = .ok (.iconst 0, 1) := by decide +kernel
theorem dX2_aboard_21 : decode cX2_aboard 21 = .ok (.ireturn, 1) := by decide +kernel
theorem dX2_aboard_22 : decode cX2_aboard 22 = .ok (.iconst 0, 1) := by decide +kernel
theorem dX2_aboard_23 : decode cX2_aboard 23 = .ok (.istore_n 2, 1) := by decide +kernel
theorem dX2_aboard_24 : decode cX2_aboard 24 = .ok (.iconst 0, 1) := by decide +kernel
theorem dX2_aboard_25 : decode cX2_aboard 25 = .ok (.istore_n 3, 1) := by decide +kernel
theorem dX2_aboard_26 : decode cX2_aboard 26 = .ok (.iload_n 3, 1) := by decide +kernel
theorem dX2_aboard_27 : decode cX2_aboard 27 = .ok (.bipush 10, 2) := by decide +kernel
theorem dX2_aboard_29 : decode cX2_aboard 29 = .ok (.if_icmp .ge 29, 3) := by decide +kernel
theorem dX2_aboard_32 : decode cX2_aboard 32 = .ok (.iload_n 2, 1) := by decide +kernel
theorem dX2_aboard_33 : decode cX2_aboard 33 = .ok (.aload_n 0, 1) := by decide +kernel
theorem dX2_aboard_34 : decode cX2_aboard 34 = .ok (.iload_n 1, 1) := by decide +kernel
theorem dX2_aboard_35 : decode cX2_aboard 35 = .ok (.iload_n 3, 1) := by decide +kernel
theorem dX2_aboard_36 : decode cX2_aboard 36 = .ok (.invokevirtual 86, 3) := by decide +kernel
theorem dX2_aboard_39 : decode cX2_aboard 39 = .ok (.iconst 2, 1) := by decide +kernel
theorem dX2_aboard_40 : decode cX2_aboard 40 = .ok (.if_icmp .ne 9, 3) := by decide +kernel
theorem dX2_aboard_43 : decode cX2_aboard 43 = .ok (.iconst 1, 1) := by decide +kernel
theorem dX2_aboard_44 : decode cX2_aboard 44 = .ok (.iload_n 3, 1) := by decide +kernel
theorem dX2_aboard_45 : decode cX2_aboard 45 = .ok (.ishl, 1) := by decide +kernel
theorem dX2_aboard_46 : decode cX2_aboard 46 = .ok (.goto 4, 3) := by decide +kernel
theorem dX2_aboard_49 : decode cX2_aboard 49 = .ok (.iconst 0, 1) := by decide +kernel
theorem dX2_aboard_50 : decode cX2_aboard 50 = .ok (.ior, 1) := by decide +kernel
theorem dX2_aboard_51 : decode cX2_aboard 51 = .ok (.istore_n 2, 1) := by decide +kernel
theorem dX2_aboard_52 : decode cX2_aboard 52 = .ok (.iinc 3 1, 3) := by decide +kernel
theorem dX2_aboard_55 : decode cX2_aboard 55 = .ok (.goto (-29), 3) := by decide +kernel
theorem dX2_aboard_58 : decode cX2_aboard 58 = .ok (.iload_n 2, 1) := by decide +kernel
theorem dX2_aboard_59 : decode cX2_aboard 59 = .ok (.ireturn, 1) := by decide +kernel
set_option maxRecDepth 20000 in
theorem ggX2_charge_X2_isRider : GoodIn wsX2_charge wsX2_isRider := goodIn_r _ [6, 7, 8, 9, 5, 10, 11, 12, 13, 14, 20, 21, 22, 23, 24, 25, 26, 27, 28, 29, 30, 31, 32, 33, 34] (by decide +kernel) (by decide +kernel)
set_option maxRecDepth 20000 in
theorem gX2_charge_X2_isRider : GoodIn wsX2_charge (wsV RX2 78 RX2 yX2_isRider wsX2_isRider) := goodIn_app (goodIn_of _ (by decide +kernel)) ggX2_charge_X2_isRider
set_option maxRecDepth 20000 in
theorem ggX2_charge_X2_fails : GoodIn wsX2_charge wsX2_fails := goodIn_r _ [18, 19, 20, 21, 22, 23, 24, 25, 26, 27, 28, 29, 30, 31, 32, 33, 34] (by decide +kernel) (by decide +kernel)
set_option maxRecDepth 20000 in
theorem gX2_charge_X2_fails : GoodIn wsX2_charge (wsV RX2 62 RX2 yX2_fails wsX2_fails) := goodIn_app (goodIn_of _ (by decide +kernel)) ggX2_charge_X2_fails
theorem dX2_charge_0 : decode cX2_charge 0 = .ok (.aload_n 0, 1) := by decide +kernel
theorem dX2_charge_1 : decode cX2_charge 1 = .ok (.aload_n 0, 1) := by decide +kernel
theorem dX2_charge_2 : decode cX2_charge 2 = .ok (.iload_n 1, 1) := by decide +kernel
theorem dX2_charge_3 : decode cX2_charge 3 = .ok (.iload_n 2, 1) := by decide +kernel
theorem dX2_charge_4 : decode cX2_charge 4 = .ok (.invokevirtual 78, 3) := by decide +kernel
theorem dX2_charge_7 : decode cX2_charge 7 = .ok (.ifCond .eq 7, 3) := by decide +kernel
theorem dX2_charge_10 : decode cX2_charge 10 = .ok (.iconst 0, 1) := by decide +kernel
theorem dX2_charge_11 : decode cX2_charge 11 = .ok (.goto 4, 3) := by decide +kernel
theorem dX2_charge_14 : decode cX2_charge 14 = .ok (.iconst 1, 1) := by decide +kernel
theorem dX2_charge_15 : decode cX2_charge 15 = .ok (.invokevirtual 62, 3) := by decide +kernel
theorem dX2_charge_18 : decode cX2_charge 18 = .ok (.ifCond .eq 7, 3) := by decide +kernel
theorem dX2_charge_21 : decode cX2_charge 21 = .ok (.iconst 0, 1) := by decide +kernel
theorem dX2_charge_22 : decode cX2_charge 22 = .ok (.goto 14, 3) := by decide +kernel
theorem dX2_charge_25 : decode cX2_charge 25 = .ok (.aload_n 0, 1) := by decide +kernel
theorem dX2_charge_26 : decode cX2_charge 26 = .ok (.getfield 36, 3) := by decide +kernel
theorem dX2_charge_29 : decode cX2_charge 29 = .ok (.bipush 10, 2) := by decide +kernel
theorem dX2_charge_31 : decode cX2_charge 31 = .ok (.iload_n 1, 1) := by decide +kernel
theorem dX2_charge_32 : decode cX2_charge 32 = .ok (.imul, 1) := by decide +kernel
theorem dX2_charge_33 : decode cX2_charge 33 = .ok (.iload_n 2, 1) := by decide +kernel
theorem dX2_charge_34 : decode cX2_charge 34 = .ok (.iadd, 1) := by decide +kernel
theorem dX2_charge_35 : decode cX2_charge 35 = .ok (.iaload, 1) := by decide +kernel
theorem dX2_charge_36 : decode cX2_charge 36 = .ok (.ireturn, 1) := by decide +kernel
theorem dX2_isVoided_0 : decode cX2_isVoided 0 = .ok (.iconst 0, 1) := by decide +kernel
theorem dX2_isVoided_1 : decode cX2_isVoided 1 = .ok (.istore_n 2, 1) := by decide +kernel
theorem dX2_isVoided_2 : decode cX2_isVoided 2 = .ok (.aload_n 0, 1) := by decide +kernel
theorem dX2_isVoided_3 : decode cX2_isVoided 3 = .ok (.getfield 26, 3) := by decide +kernel
theorem dX2_isVoided_6 : decode cX2_isVoided 6 = .ok (.iload_n 1, 1) := by decide +kernel
theorem dX2_isVoided_7 : decode cX2_isVoided 7 = .ok (.baload, 1) := by decide +kernel
theorem dX2_isVoided_8 : decode cX2_isVoided 8 = .ok (.istore_n 3, 1) := by decide +kernel
theorem dX2_isVoided_9 : decode cX2_isVoided 9 = .ok (.bipush 10, 2) := by decide +kernel
theorem dX2_isVoided_11 : decode cX2_isVoided 11 = .ok (.iload_n 1, 1) := by decide +kernel
theorem dX2_isVoided_12 : decode cX2_isVoided 12 = .ok (.imul, 1) := by decide +kernel
theorem dX2_isVoided_13 : decode cX2_isVoided 13 = .ok (.istore 4, 2) := by decide +kernel
theorem dX2_isVoided_15 : decode cX2_isVoided 15 = .ok (.iload 4, 2) := by decide +kernel
theorem dX2_isVoided_17 : decode cX2_isVoided 17 = .ok (.bipush 10, 2) := by decide +kernel
theorem dX2_isVoided_19 : decode cX2_isVoided 19 = .ok (.iload_n 1, 1) := by decide +kernel
theorem dX2_isVoided_20 : decode cX2_isVoided 20 = .ok (.imul, 1) := by decide +kernel
theorem dX2_isVoided_21 : decode cX2_isVoided 21 = .ok (.bipush 10, 2) := by decide +kernel
theorem dX2_isVoided_23 : decode cX2_isVoided 23 = .ok (.iadd, 1) := by decide +kernel
theorem dX2_isVoided_24 : decode cX2_isVoided 24 = .ok (.if_icmp .ge 75, 3) := by decide +kernel
theorem dX2_isVoided_27 : decode cX2_isVoided 27 = .ok (.iload_n 2, 1) := by decide +kernel
theorem dX2_isVoided_28 : decode cX2_isVoided 28 = .ok (.aload_n 0, 1) := by decide +kernel
theorem dX2_isVoided_29 : decode cX2_isVoided 29 = .ok (.getfield 36, 3) := by decide +kernel
theorem dX2_isVoided_32 : decode cX2_isVoided 32 = .ok (.iload 4, 2) := by decide +kernel
theorem dX2_isVoided_34 : decode cX2_isVoided 34 = .ok (.iaload, 1) := by decide +kernel
theorem dX2_isVoided_35 : decode cX2_isVoided 35 = .ok (.ifCond .le 7, 3) := by decide +kernel
theorem dX2_isVoided_38 : decode cX2_isVoided 38 = .ok (.iconst 1, 1) := by decide +kernel
theorem dX2_isVoided_39 : decode cX2_isVoided 39 = .ok (.goto 4, 3) := by decide +kernel
theorem dX2_isVoided_42 : decode cX2_isVoided 42 = .ok (.iconst 0, 1) := by decide +kernel
theorem dX2_isVoided_43 : decode cX2_isVoided 43 = .ok (.iadd, 1) := by decide +kernel
theorem dX2_isVoided_44 : decode cX2_isVoided 44 = .ok (.istore_n 2, 1) := by decide +kernel
theorem dX2_isVoided_45 : decode cX2_isVoided 45 = .ok (.iload_n 3, 1) := by decide +kernel
theorem dX2_isVoided_46 : decode cX2_isVoided 46 = .ok (.ifCond .eq 45, 3) := by decide +kernel
theorem dX2_isVoided_49 : decode cX2_isVoided 49 = .ok (.aload_n 0, 1) := by decide +kernel
theorem dX2_isVoided_50 : decode cX2_isVoided 50 = .ok (.getfield 36, 3) := by decide +kernel
theorem dX2_isVoided_53 : decode cX2_isVoided 53 = .ok (.iload 4, 2) := by decide +kernel
theorem dX2_isVoided_55 : decode cX2_isVoided 55 = .ok (.iaload, 1) := by decide +kernel
theorem dX2_isVoided_56 : decode cX2_isVoided 56 = .ok (.ifCond .eq 31, 3) := by decide +kernel
theorem dX2_isVoided_59 : decode cX2_isVoided 59 = .ok (.aload_n 0, 1) := by decide +kernel
theorem dX2_isVoided_60 : decode cX2_isVoided 60 = .ok (.getfield 39, 3) := by decide +kernel
theorem dX2_isVoided_63 : decode cX2_isVoided 63 = .ok (.iload 4, 2) := by decide +kernel
theorem dX2_isVoided_65 : decode cX2_isVoided 65 = .ok (.iaload, 1) := by decide +kernel
theorem dX2_isVoided_66 : decode cX2_isVoided 66 = .ok (.iconst 3, 1) := by decide +kernel
theorem dX2_isVoided_67 : decode cX2_isVoided 67 = .ok (.if_icmp .ne 24, 3) := by decide +kernel
theorem dX2_isVoided_70 : decode cX2_isVoided 70 = .ok (.aload_n 0, 1) := by decide +kernel
theorem dX2_isVoided_71 : decode cX2_isVoided 71 = .ok (.getfield 42, 3) := by decide +kernel
theorem dX2_isVoided_74 : decode cX2_isVoided 74 = .ok (.iload 4, 2) := by decide +kernel
theorem dX2_isVoided_76 : decode cX2_isVoided 76 = .ok (.iaload, 1) := by decide +kernel
theorem dX2_isVoided_77 : decode cX2_isVoided 77 = .ok (.aload_n 0, 1) := by decide +kernel
theorem dX2_isVoided_78 : decode cX2_isVoided 78 = .ok (.getfield 36, 3) := by decide +kernel
theorem dX2_isVoided_81 : decode cX2_isVoided 81 = .ok (.iload 4, 2) := by decide +kernel
theorem dX2_isVoided_83 : decode cX2_isVoided 83 = .ok (.iaload, 1) := by decide +kernel
theorem dX2_isVoided_84 : decode cX2_isVoided 84 = .ok (.if_icmp .ne 7, 3) := by decide +kernel
theorem dX2_isVoided_87 : decode cX2_isVoided 87 = .ok (.iconst 1, 1) := by decide +kernel
theorem dX2_isVoided_88 : decode cX2_isVoided 88 = .ok (.goto 4, 3) := by decide +kernel
theorem dX2_isVoided_91 : decode cX2_isVoided 91 = .ok (.iconst 0, 1) := by decide +kernel
theorem dX2_isVoided_92 : decode cX2_isVoided 92 = .ok (.istore_n 3, 1) := by decide +kernel
theorem dX2_isVoided_93 : decode cX2_isVoided 93 = .ok (.iinc 4 1, 3) := by decide +kernel
theorem dX2_isVoided_96 : decode cX2_isVoided 96 = .ok (.goto (-81), 3) := by decide +kernel
theorem dX2_isVoided_99 : decode cX2_isVoided 99 = .ok (.iload_n 3, 1) := by decide +kernel
theorem dX2_isVoided_100 : decode cX2_isVoided 100 = .ok (.ifCond .eq 11, 3) := by decide +kernel
theorem dX2_isVoided_103 : decode cX2_isVoided 103 = .ok (.iload_n 2, 1) := by decide +kernel
theorem dX2_isVoided_104 : decode cX2_isVoided 104 = .ok (.ifCond .le 7, 3) := by decide +kernel
theorem dX2_isVoided_107 : decode cX2_isVoided 107 = .ok (.iconst 1, 1) := by decide +kernel
theorem dX2_isVoided_108 : decode cX2_isVoided 108 = .ok (.goto 4, 3) := by decide +kernel
theorem dX2_isVoided_111 : decode cX2_isVoided 111 = .ok (.iconst 0, 1) := by decide +kernel
theorem dX2_isVoided_112 : decode cX2_isVoided 112 = .ok (.ireturn, 1) := by decide +kernel
set_option maxRecDepth 20000 in
theorem ggX2_isVoid_X2_isRide : GoodIn wsX2_isVoid wsX2_isRide := goodIn_r _ [5, 6, 7, 8, 4, 9, 23, 24, 25, 26, 27, 28, 29, 30, 31, 32, 33, 34, 35, 36, 37] (by decide +kernel) (by decide +kernel)
set_option maxRecDepth 20000 in
theorem gX2_isVoid_X2_isRide : GoodIn wsX2_isVoid (wsV RX2 58 RX2 yX2_isRide wsX2_isRide) := goodIn_app (goodIn_of _ (by decide +kernel)) ggX2_isVoid_X2_isRide
set_option maxRecDepth 20000 in
theorem ggX2_isVoid_X2_fails : GoodIn wsX2_isVoid wsX2_fails := goodIn_r _ [13, 14, 23, 24, 25, 26, 27, 28, 29, 30, 31, 32, 33, 34, 35, 36, 37] (by decide +kernel) (by decide +kernel)
set_option maxRecDepth 20000 in
theorem gX2_isVoid_X2_fails : GoodIn wsX2_isVoid (wsV RX2 62 RX2 yX2_fails wsX2_fails) := goodIn_app (goodIn_of _ (by decide +kernel)) ggX2_isVoid_X2_fails
set_option maxRecDepth 20000 in
theorem ggX2_isVoid_X2_isVoided : GoodIn wsX2_isVoid wsX2_isVoided := goodIn_r _ [18, 19, 20, 21, 22, 23, 24, 25, 26, 27, 28, 29, 30, 31, 32, 33, 34, 35, 36, 37] (by decide +kernel) (by decide +kernel)
set_option maxRecDepth 20000 in
theorem gX2_isVoid_X2_isVoided : GoodIn wsX2_isVoid (wsV RX2 89 RX2 yX2_isVoided wsX2_isVoided) := goodIn_app (goodIn_of _ (by decide +kernel)) ggX2_isVoid_X2_isVoided
theorem dX2_isVoid_0 : decode cX2_isVoid 0 = .ok (.aload_n 0, 1) := by decide +kernel
theorem dX2_isVoid_1 : decode cX2_isVoid 1 = .ok (.aload_n 0, 1) := by decide +kernel
theorem dX2_isVoid_2 : decode cX2_isVoid 2 = .ok (.iload_n 1, 1) := by decide +kernel
theorem dX2_isVoid_3 : decode cX2_isVoid 3 = .ok (.invokevirtual 58, 3) := by decide +kernel
theorem dX2_isVoid_6 : decode cX2_isVoid 6 = .ok (.ifCond .eq 7, 3) := by decide +kernel
theorem dX2_isVoid_9 : decode cX2_isVoid 9 = .ok (.iconst 0, 1) := by decide +kernel
theorem dX2_isVoid_10 : decode cX2_isVoid 10 = .ok (.goto 4, 3) := by decide +kernel
theorem dX2_isVoid_13 : decode cX2_isVoid 13 = .ok (.iconst 1, 1) := by decide +kernel
theorem dX2_isVoid_14 : decode cX2_isVoid 14 = .ok (.invokevirtual 62, 3) := by decide +kernel
theorem dX2_isVoid_17 : decode cX2_isVoid 17 = .ok (.ifCond .ne 15, 3) := by decide +kernel
theorem dX2_isVoid_20 : decode cX2_isVoid 20 = .ok (.aload_n 0, 1) := by decide +kernel
theorem dX2_isVoid_21 : decode cX2_isVoid 21 = .ok (.iload_n 1, 1) := by decide +kernel
theorem dX2_isVoid_22 : decode cX2_isVoid 22 = .ok (.invokevirtual 89, 3) := by decide +kernel
theorem dX2_isVoid_25 : decode cX2_isVoid 25 = .ok (.ifCond .eq 7, 3) := by decide +kernel
theorem dX2_isVoid_28 : decode cX2_isVoid 28 = .ok (.iconst 1, 1) := by decide +kernel
theorem dX2_isVoid_29 : decode cX2_isVoid 29 = .ok (.goto 4, 3) := by decide +kernel
theorem dX2_isVoid_32 : decode cX2_isVoid 32 = .ok (.iconst 0, 1) := by decide +kernel
theorem dX2_isVoid_33 : decode cX2_isVoid 33 = .ok (.ireturn, 1) := by decide +kernel
set_option maxRecDepth 20000 in
theorem ggX2_dispute_X2_isRider : GoodIn wsX2_dispute wsX2_isRider := goodIn_r _ [8, 9, 10, 11, 7, 12, 13, 14, 15, 16, 22, 23, 24, 25, 26, 27, 28, 29, 30, 31, 32, 33, 34, 35, 36] (by decide +kernel) (by decide +kernel)
set_option maxRecDepth 20000 in
theorem gX2_dispute_X2_isRider : GoodIn wsX2_dispute (wsV RX2 78 RX2 yX2_isRider wsX2_isRider) := goodIn_app (goodIn_of _ (by decide +kernel)) ggX2_dispute_X2_isRider
set_option maxRecDepth 20000 in
theorem ggX2_dispute_X2_fails : GoodIn wsX2_dispute wsX2_fails := goodIn_r _ [20, 21, 22, 23, 24, 25, 26, 27, 28, 29, 30, 31, 32, 33, 34, 35, 36] (by decide +kernel) (by decide +kernel)
set_option maxRecDepth 20000 in
theorem gX2_dispute_X2_fails : GoodIn wsX2_dispute (wsV RX2 62 RX2 yX2_fails wsX2_fails) := goodIn_app (goodIn_of _ (by decide +kernel)) ggX2_dispute_X2_fails
theorem dX2_dispute_0 : decode cX2_dispute 0 = .ok (.aload_n 0, 1) := by decide +kernel
theorem dX2_dispute_1 : decode cX2_dispute 1 = .ok (.iload_n 1, 1) := by decide +kernel
theorem dX2_dispute_2 : decode cX2_dispute 2 = .ok (.iload_n 2, 1) := by decide +kernel
theorem dX2_dispute_3 : decode cX2_dispute 3 = .ok (.invokevirtual 78, 3) := by decide +kernel
theorem dX2_dispute_6 : decode cX2_dispute 6 = .ok (.istore_n 3, 1) := by decide +kernel
theorem dX2_dispute_7 : decode cX2_dispute 7 = .ok (.iload_n 3, 1) := by decide +kernel
theorem dX2_dispute_8 : decode cX2_dispute 8 = .ok (.ifCond .eq 12, 3) := by decide +kernel
theorem dX2_dispute_11 : decode cX2_dispute 11 = .ok (.bipush 10, 2) := by decide +kernel
theorem dX2_dispute_13 : decode cX2_dispute 13 = .ok (.iload_n 1, 1) := by decide +kernel
theorem dX2_dispute_14 : decode cX2_dispute 14 = .ok (.imul, 1) := by decide +kernel
theorem dX2_dispute_15 : decode cX2_dispute 15 = .ok (.iload_n 2, 1) := by decide +kernel
theorem dX2_dispute_16 : decode cX2_dispute 16 = .ok (.iadd, 1) := by decide +kernel
theorem dX2_dispute_17 : decode cX2_dispute 17 = .ok (.goto 4, 3) := by decide +kernel
theorem dX2_dispute_20 : decode cX2_dispute 20 = .ok (.iconst 0, 1) := by decide +kernel
theorem dX2_dispute_21 : decode cX2_dispute 21 = .ok (.istore 4, 2) := by decide +kernel
theorem dX2_dispute_23 : decode cX2_dispute 23 = .ok (.aload_n 0, 1) := by decide +kernel
theorem dX2_dispute_24 : decode cX2_dispute 24 = .ok (.iload_n 3, 1) := by decide +kernel
theorem dX2_dispute_25 : decode cX2_dispute 25 = .ok (.ifCond .ne 7, 3) := by decide +kernel
theorem dX2_dispute_28 : decode cX2_dispute 28 = .ok (.iconst 1, 1) := by decide +kernel
theorem dX2_dispute_29 : decode cX2_dispute 29 = .ok (.goto 37, 3) := by decide +kernel
theorem dX2_dispute_32 : decode cX2_dispute 32 = .ok (.aload_n 0, 1) := by decide +kernel
theorem dX2_dispute_33 : decode cX2_dispute 33 = .ok (.getfield 26, 3) := by decide +kernel
theorem dX2_dispute_36 : decode cX2_dispute 36 = .ok (.iload_n 1, 1) := by decide +kernel
theorem dX2_dispute_37 : decode cX2_dispute 37 = .ok (.baload, 1) := by decide +kernel
theorem dX2_dispute_38 : decode cX2_dispute 38 = .ok (.ifCond .eq 23, 3) := by decide +kernel
theorem dX2_dispute_41 : decode cX2_dispute 41 = .ok (.aload_n 0, 1) := by decide +kernel
theorem dX2_dispute_42 : decode cX2_dispute 42 = .ok (.getfield 36, 3) := by decide +kernel
theorem dX2_dispute_45 : decode cX2_dispute 45 = .ok (.iload 4, 2) := by decide +kernel
theorem dX2_dispute_47 : decode cX2_dispute 47 = .ok (.iaload, 1) := by decide +kernel
theorem dX2_dispute_48 : decode cX2_dispute 48 = .ok (.ifCond .eq 13, 3) := by decide +kernel
theorem dX2_dispute_51 : decode cX2_dispute 51 = .ok (.aload_n 0, 1) := by decide +kernel
theorem dX2_dispute_52 : decode cX2_dispute 52 = .ok (.getfield 39, 3) := by decide +kernel
theorem dX2_dispute_55 : decode cX2_dispute 55 = .ok (.iload 4, 2) := by decide +kernel
theorem dX2_dispute_57 : decode cX2_dispute 57 = .ok (.iaload, 1) := by decide +kernel
theorem dX2_dispute_58 : decode cX2_dispute 58 = .ok (.ifCond .le 7, 3) := by decide +kernel
theorem dX2_dispute_61 : decode cX2_dispute 61 = .ok (.iconst 2, 1) := by decide +kernel
theorem dX2_dispute_62 : decode cX2_dispute 62 = .ok (.goto 4, 3) := by decide +kernel
theorem dX2_dispute_65 : decode cX2_dispute 65 = .ok (.iconst 0, 1) := by decide +kernel
theorem dX2_dispute_66 : decode cX2_dispute 66 = .ok (.invokevirtual 62, 3) := by decide +kernel
theorem dX2_dispute_69 : decode cX2_dispute 69 = .ok (.ifCond .eq 5, 3) := by decide +kernel
theorem dX2_dispute_72 : decode cX2_dispute 72 = .ok (.iconst 0, 1) := by decide +kernel
theorem dX2_dispute_73 : decode cX2_dispute 73 = .ok (.ireturn, 1) := by decide +kernel
theorem dX2_dispute_74 : decode cX2_dispute 74 = .ok (.aload_n 0, 1) := by decide +kernel
theorem dX2_dispute_75 : decode cX2_dispute 75 = .ok (.getfield 39, 3) := by decide +kernel
theorem dX2_dispute_78 : decode cX2_dispute 78 = .ok (.iload 4, 2) := by decide +kernel
theorem dX2_dispute_80 : decode cX2_dispute 80 = .ok (.iconst 1, 1) := by decide +kernel
theorem dX2_dispute_81 : decode cX2_dispute 81 = .ok (.iastore, 1) := by decide +kernel
theorem dX2_dispute_82 : decode cX2_dispute 82 = .ok (.aload_n 0, 1) := by decide +kernel
theorem dX2_dispute_83 : decode cX2_dispute 83 = .ok (.getfield 36, 3) := by decide +kernel
theorem dX2_dispute_86 : decode cX2_dispute 86 = .ok (.iload 4, 2) := by decide +kernel
theorem dX2_dispute_88 : decode cX2_dispute 88 = .ok (.iaload, 1) := by decide +kernel
theorem dX2_dispute_89 : decode cX2_dispute 89 = .ok (.ireturn, 1) := by decide +kernel
set_option maxRecDepth 20000 in
theorem ggX2_settle_X2_isRider : GoodIn wsX2_settle wsX2_isRider := goodIn_r _ [9, 10, 11, 12, 8, 13, 14, 15, 16, 17, 23, 24, 25, 26, 27, 28, 29, 30, 31, 32, 33, 34, 35, 36, 37] (by decide +kernel) (by decide +kernel)
set_option maxRecDepth 20000 in
theorem gX2_settle_X2_isRider : GoodIn wsX2_settle (wsV RX2 78 RX2 yX2_isRider wsX2_isRider) := goodIn_app (goodIn_of _ (by decide +kernel)) ggX2_settle_X2_isRider
set_option maxRecDepth 20000 in
theorem ggX2_settle_X2_isIn : GoodIn wsX2_settle wsX2_isIn := goodIn_r _ [17] (by decide +kernel) (by decide +kernel)
set_option maxRecDepth 20000 in
theorem gX2_settle_X2_isIn : GoodIn wsX2_settle (va_wsS RX2 54 yX2_isIn wsX2_isIn) := goodIn_app (goodIn_of _ (by decide +kernel)) ggX2_settle_X2_isIn
set_option maxRecDepth 20000 in
theorem ggX2_settle_X2_fails : GoodIn wsX2_settle wsX2_fails := goodIn_r _ [21, 22, 23, 24, 25, 26, 27, 28, 29, 30, 31, 32, 33, 34, 35, 36, 37] (by decide +kernel) (by decide +kernel)
set_option maxRecDepth 20000 in
theorem gX2_settle_X2_fails : GoodIn wsX2_settle (wsV RX2 62 RX2 yX2_fails wsX2_fails) := goodIn_app (goodIn_of _ (by decide +kernel)) ggX2_settle_X2_fails
theorem dX2_settle_0 : decode cX2_settle 0 = .ok (.aload_n 0, 1) := by decide +kernel
theorem dX2_settle_1 : decode cX2_settle 1 = .ok (.iload_n 1, 1) := by decide +kernel
theorem dX2_settle_2 : decode cX2_settle 2 = .ok (.iload_n 2, 1) := by decide +kernel
theorem dX2_settle_3 : decode cX2_settle 3 = .ok (.invokevirtual 78, 3) := by decide +kernel
theorem dX2_settle_6 : decode cX2_settle 6 = .ok (.istore 5, 2) := by decide +kernel
theorem dX2_settle_8 : decode cX2_settle 8 = .ok (.iload 5, 2) := by decide +kernel
theorem dX2_settle_10 : decode cX2_settle 10 = .ok (.ifCond .eq 12, 3) := by decide +kernel
theorem dX2_settle_13 : decode cX2_settle 13 = .ok (.bipush 10, 2) := by decide +kernel
theorem dX2_settle_15 : decode cX2_settle 15 = .ok (.iload_n 1, 1) := by decide +kernel
theorem dX2_settle_16 : decode cX2_settle 16 = .ok (.imul, 1) := by decide +kernel
theorem dX2_settle_17 : decode cX2_settle 17 = .ok (.iload_n 2, 1) := by decide +kernel
theorem dX2_settle_18 : decode cX2_settle 18 = .ok (.iadd, 1) := by decide +kernel
theorem dX2_settle_19 : decode cX2_settle 19 = .ok (.goto 4, 3) := by decide +kernel
theorem dX2_settle_22 : decode cX2_settle 22 = .ok (.iconst 0, 1) := by decide +kernel
theorem dX2_settle_23 : decode cX2_settle 23 = .ok (.istore 6, 2) := by decide +kernel
theorem dX2_settle_25 : decode cX2_settle 25 = .ok (.aload_n 0, 1) := by decide +kernel
theorem dX2_settle_26 : decode cX2_settle 26 = .ok (.iload 5, 2) := by decide +kernel
theorem dX2_settle_28 : decode cX2_settle 28 = .ok (.ifCond .ne 7, 3) := by decide +kernel
theorem dX2_settle_31 : decode cX2_settle 31 = .ok (.iconst 1, 1) := by decide +kernel
theorem dX2_settle_32 : decode cX2_settle 32 = .ok (.goto 33, 3) := by decide +kernel
theorem dX2_settle_35 : decode cX2_settle 35 = .ok (.iload_n 3, 1) := by decide +kernel
theorem dX2_settle_36 : decode cX2_settle 36 = .ok (.iconst 0, 1) := by decide +kernel
theorem dX2_settle_37 : decode cX2_settle 37 = .ok (.bipush 100, 2) := by decide +kernel
theorem dX2_settle_39 : decode cX2_settle 39 = .ok (.invokestatic 54, 3) := by decide +kernel
theorem dX2_settle_42 : decode cX2_settle 42 = .ok (.ifCond .ne 7, 3) := by decide +kernel
theorem dX2_settle_45 : decode cX2_settle 45 = .ok (.iconst 2, 1) := by decide +kernel
theorem dX2_settle_46 : decode cX2_settle 46 = .ok (.goto 19, 3) := by decide +kernel
theorem dX2_settle_49 : decode cX2_settle 49 = .ok (.aload_n 0, 1) := by decide +kernel
theorem dX2_settle_50 : decode cX2_settle 50 = .ok (.getfield 39, 3) := by decide +kernel
theorem dX2_settle_53 : decode cX2_settle 53 = .ok (.iload 6, 2) := by decide +kernel
theorem dX2_settle_55 : decode cX2_settle 55 = .ok (.iaload, 1) := by decide +kernel
theorem dX2_settle_56 : decode cX2_settle 56 = .ok (.iconst 1, 1) := by decide +kernel
theorem dX2_settle_57 : decode cX2_settle 57 = .ok (.if_icmp .ne 7, 3) := by decide +kernel
theorem dX2_settle_60 : decode cX2_settle 60 = .ok (.iconst 0, 1) := by decide +kernel
theorem dX2_settle_61 : decode cX2_settle 61 = .ok (.goto 4, 3) := by decide +kernel
theorem dX2_settle_64 : decode cX2_settle 64 = .ok (.iconst 3, 1) := by decide +kernel
theorem dX2_settle_65 : decode cX2_settle 65 = .ok (.invokevirtual 62, 3) := by decide +kernel
theorem dX2_settle_68 : decode cX2_settle 68 = .ok (.ifCond .eq 5, 3) := by decide +kernel
theorem dX2_settle_71 : decode cX2_settle 71 = .ok (.iconst 0, 1) := by decide +kernel
theorem dX2_settle_72 : decode cX2_settle 72 = .ok (.ireturn, 1) := by decide +kernel
theorem dX2_settle_73 : decode cX2_settle 73 = .ok (.aload_n 0, 1) := by decide +kernel
theorem dX2_settle_74 : decode cX2_settle 74 = .ok (.getfield 39, 3) := by decide +kernel
theorem dX2_settle_77 : decode cX2_settle 77 = .ok (.iload 6, 2) := by decide +kernel
theorem dX2_settle_79 : decode cX2_settle 79 = .ok (.iload 4, 2) := by decide +kernel
theorem dX2_settle_81 : decode cX2_settle 81 = .ok (.ifCond .eq 7, 3) := by decide +kernel
theorem dX2_settle_84 : decode cX2_settle 84 = .ok (.iconst 3, 1) := by decide +kernel
theorem dX2_settle_85 : decode cX2_settle 85 = .ok (.goto 4, 3) := by decide +kernel
theorem dX2_settle_88 : decode cX2_settle 88 = .ok (.iconst 2, 1) := by decide +kernel
theorem dX2_settle_89 : decode cX2_settle 89 = .ok (.iastore, 1) := by decide +kernel
theorem dX2_settle_90 : decode cX2_settle 90 = .ok (.aload_n 0, 1) := by decide +kernel
theorem dX2_settle_91 : decode cX2_settle 91 = .ok (.getfield 42, 3) := by decide +kernel
theorem dX2_settle_94 : decode cX2_settle 94 = .ok (.iload 6, 2) := by decide +kernel
theorem dX2_settle_96 : decode cX2_settle 96 = .ok (.aload_n 0, 1) := by decide +kernel
theorem dX2_settle_97 : decode cX2_settle 97 = .ok (.getfield 36, 3) := by decide +kernel
theorem dX2_settle_100 : decode cX2_settle 100 = .ok (.iload 6, 2) := by decide +kernel
theorem dX2_settle_102 : decode cX2_settle 102 = .ok (.iaload, 1) := by decide +kernel
theorem dX2_settle_103 : decode cX2_settle 103 = .ok (.i2l, 1) := by decide +kernel
theorem dX2_settle_104 : decode cX2_settle 104 = .ok (.iload_n 3, 1) := by decide +kernel
theorem dX2_settle_105 : decode cX2_settle 105 = .ok (.i2l, 1) := by decide +kernel
theorem dX2_settle_106 : decode cX2_settle 106 = .ok (.lmul, 1) := by decide +kernel
theorem dX2_settle_107 : decode cX2_settle 107 = .ok (.ldc2_w 92, 3) := by decide +kernel
theorem dX2_settle_110 : decode cX2_settle 110 = .ok (.ldiv, 1) := by decide +kernel
theorem dX2_settle_111 : decode cX2_settle 111 = .ok (.l2i, 1) := by decide +kernel
theorem dX2_settle_112 : decode cX2_settle 112 = .ok (.iastore, 1) := by decide +kernel
theorem dX2_settle_113 : decode cX2_settle 113 = .ok (.aload_n 0, 1) := by decide +kernel
theorem dX2_settle_114 : decode cX2_settle 114 = .ok (.getfield 42, 3) := by decide +kernel
theorem dX2_settle_117 : decode cX2_settle 117 = .ok (.iload 6, 2) := by decide +kernel
theorem dX2_settle_119 : decode cX2_settle 119 = .ok (.iaload, 1) := by decide +kernel
theorem dX2_settle_120 : decode cX2_settle 120 = .ok (.ireturn, 1) := by decide +kernel
set_option maxRecDepth 20000 in
theorem ggX2_openDisputes_X2_tells : GoodIn wsX2_openDisputes wsX2_tells := goodIn_r _ [7, 8, 9, 10, 11, 12, 13, 14, 15, 16, 17, 18, 19, 20, 21, 22, 23] (by decide +kernel) (by decide +kernel)
set_option maxRecDepth 20000 in
theorem gX2_openDisputes_X2_tells : GoodIn wsX2_openDisputes (wsV RX2 94 RX2 yX2_tells wsX2_tells) := goodIn_app (goodIn_of _ (by decide +kernel)) ggX2_openDisputes_X2_tells
theorem dX2_openDisputes_0 : decode cX2_openDisputes 0 = .ok (.iconst 0, 1) := by decide +kernel
theorem dX2_openDisputes_1 : decode cX2_openDisputes 1 = .ok (.istore_n 1, 1) := by decide +kernel
theorem dX2_openDisputes_2 : decode cX2_openDisputes 2 = .ok (.iconst 0, 1) := by decide +kernel
theorem dX2_openDisputes_3 : decode cX2_openDisputes 3 = .ok (.istore_n 2, 1) := by decide +kernel
theorem dX2_openDisputes_4 : decode cX2_openDisputes 4 = .ok (.iload_n 2, 1) := by decide +kernel
theorem dX2_openDisputes_5 : decode cX2_openDisputes 5 = .ok (.bipush 10, 2) := by decide +kernel
theorem dX2_openDisputes_7 : decode cX2_openDisputes 7 = .ok (.aload_n 0, 1) := by decide +kernel
theorem dX2_openDisputes_8 : decode cX2_openDisputes 8 = .ok (.getfield 51, 3) := by decide +kernel
theorem dX2_openDisputes_11 : decode cX2_openDisputes 11 = .ok (.imul, 1) := by decide +kernel
theorem dX2_openDisputes_12 : decode cX2_openDisputes 12 = .ok (.if_icmp .ge 27, 3) := by decide +kernel
theorem dX2_openDisputes_15 : decode cX2_openDisputes 15 = .ok (.iload_n 1, 1) := by decide +kernel
theorem dX2_openDisputes_16 : decode cX2_openDisputes 16 = .ok (.aload_n 0, 1) := by decide +kernel
theorem dX2_openDisputes_17 : decode cX2_openDisputes 17 = .ok (.getfield 39, 3) := by decide +kernel
theorem dX2_openDisputes_20 : decode cX2_openDisputes 20 = .ok (.iload_n 2, 1) := by decide +kernel
theorem dX2_openDisputes_21 : decode cX2_openDisputes 21 = .ok (.iaload, 1) := by decide +kernel
theorem dX2_openDisputes_22 : decode cX2_openDisputes 22 = .ok (.iconst 1, 1) := by decide +kernel
theorem dX2_openDisputes_23 : decode cX2_openDisputes 23 = .ok (.if_icmp .ne 7, 3) := by decide +kernel
theorem dX2_openDisputes_26 : decode cX2_openDisputes 26 = .ok (.iconst 1, 1) := by decide +kernel
theorem dX2_openDisputes_27 : decode cX2_openDisputes 27 = .ok (.goto 4, 3) := by decide +kernel
theorem dX2_openDisputes_30 : decode cX2_openDisputes 30 = .ok (.iconst 0, 1) := by decide +kernel
theorem dX2_openDisputes_31 : decode cX2_openDisputes 31 = .ok (.iadd, 1) := by decide +kernel
theorem dX2_openDisputes_32 : decode cX2_openDisputes 32 = .ok (.istore_n 1, 1) := by decide +kernel
theorem dX2_openDisputes_33 : decode cX2_openDisputes 33 = .ok (.iinc 2 1, 3) := by decide +kernel
theorem dX2_openDisputes_36 : decode cX2_openDisputes 36 = .ok (.goto (-32), 3) := by decide +kernel
theorem dX2_openDisputes_39 : decode cX2_openDisputes 39 = .ok (.aload_n 0, 1) := by decide +kernel
theorem dX2_openDisputes_40 : decode cX2_openDisputes 40 = .ok (.iload_n 1, 1) := by decide +kernel
theorem dX2_openDisputes_41 : decode cX2_openDisputes 41 = .ok (.invokevirtual 94, 3) := by decide +kernel
theorem dX2_openDisputes_44 : decode cX2_openDisputes 44 = .ok (.ireturn, 1) := by decide +kernel
theorem dX2_belongs_0 : decode cX2_belongs 0 = .ok (.aload_n 0, 1) := by decide +kernel
theorem dX2_belongs_1 : decode cX2_belongs 1 = .ok (.getfield 26, 3) := by decide +kernel
theorem dX2_belongs_4 : decode cX2_belongs 4 = .ok (.iload_n 1, 1) := by decide +kernel
theorem dX2_belongs_5 : decode cX2_belongs 5 = .ok (.baload, 1) := by decide +kernel
theorem dX2_belongs_6 : decode cX2_belongs 6 = .ok (.ifCond .eq 27, 3) := by decide +kernel
theorem dX2_belongs_9 : decode cX2_belongs 9 = .ok (.aload_n 0, 1) := by decide +kernel
theorem dX2_belongs_10 : decode cX2_belongs 10 = .ok (.getfield 16, 3) := by decide +kernel
theorem dX2_belongs_13 : decode cX2_belongs 13 = .ok (.iload_n 1, 1) := by decide +kernel
theorem dX2_belongs_14 : decode cX2_belongs 14 = .ok (.iaload, 1) := by decide +kernel
theorem dX2_belongs_15 : decode cX2_belongs 15 = .ok (.iload_n 2, 1) := by decide +kernel
theorem dX2_belongs_16 : decode cX2_belongs 16 = .ok (.if_icmp .ne 17, 3) := by decide +kernel
theorem dX2_belongs_19 : decode cX2_belongs 19 = .ok (.aload_n 0, 1) := by decide +kernel
theorem dX2_belongs_20 : decode cX2_belongs 20 = .ok (.getfield 20, 3) := by decide +kernel
theorem dX2_belongs_23 : decode cX2_belongs 23 = .ok (.iload_n 1, 1) := by decide +kernel
theorem dX2_belongs_24 : decode cX2_belongs 24 = .ok (.iaload, 1) := by decide +kernel
theorem dX2_belongs_25 : decode cX2_belongs 25 = .ok (.iload_n 3, 1) := by decide +kernel
theorem dX2_belongs_26 : decode cX2_belongs 26 = .ok (.if_icmp .ne 7, 3) := by decide +kernel
theorem dX2_belongs_29 : decode cX2_belongs 29 = .ok (.iconst 1, 1) := by decide +kernel
theorem dX2_belongs_30 : decode cX2_belongs 30 = .ok (.goto 4, 3) := by decide +kernel
theorem dX2_belongs_33 : decode cX2_belongs 33 = .ok (.iconst 0, 1) := by decide +kernel
theorem dX2_belongs_34 : decode cX2_belongs 34 = .ok (.ireturn, 1) := by decide +kernel
set_option maxRecDepth 20000 in
theorem ggX2_earns_X2_belongs : GoodIn wsX2_earns wsX2_belongs := goodIn_r _ [9, 10, 11, 12, 13, 14, 15, 16, 17, 18, 19, 20, 21, 22, 23, 24, 25, 26, 27] (by decide +kernel) (by decide +kernel)
set_option maxRecDepth 20000 in
theorem gX2_earns_X2_belongs : GoodIn wsX2_earns (wsV RX2 97 RX2 yX2_belongs wsX2_belongs) := goodIn_app (goodIn_of _ (by decide +kernel)) ggX2_earns_X2_belongs
theorem dX2_earns_0 : decode cX2_earns 0 = .ok (.iconst 0, 1) := by decide +kernel
theorem dX2_earns_1 : decode cX2_earns 1 = .ok (.istore_n 3, 1) := by decide +kernel
theorem dX2_earns_2 : decode cX2_earns 2 = .ok (.iconst 0, 1) := by decide +kernel
theorem dX2_earns_3 : decode cX2_earns 3 = .ok (.istore 4, 2) := by decide +kernel
theorem dX2_earns_5 : decode cX2_earns 5 = .ok (.iload 4, 2) := by decide +kernel
theorem dX2_earns_7 : decode cX2_earns 7 = .ok (.bipush 10, 2) := by decide +kernel
theorem dX2_earns_9 : decode cX2_earns 9 = .ok (.aload_n 0, 1) := by decide +kernel
theorem dX2_earns_10 : decode cX2_earns 10 = .ok (.getfield 51, 3) := by decide +kernel
theorem dX2_earns_13 : decode cX2_earns 13 = .ok (.imul, 1) := by decide +kernel
theorem dX2_earns_14 : decode cX2_earns 14 = .ok (.if_icmp .ge 65, 3) := by decide +kernel
theorem dX2_earns_17 : decode cX2_earns 17 = .ok (.aload_n 0, 1) := by decide +kernel
theorem dX2_earns_18 : decode cX2_earns 18 = .ok (.iload 4, 2) := by decide +kernel
theorem dX2_earns_20 : decode cX2_earns 20 = .ok (.bipush 10, 2) := by decide +kernel
theorem dX2_earns_22 : decode cX2_earns 22 = .ok (.idiv, 1) := by decide +kernel
theorem dX2_earns_23 : decode cX2_earns 23 = .ok (.iload_n 1, 1) := by decide +kernel
theorem dX2_earns_24 : decode cX2_earns 24 = .ok (.iload_n 2, 1) := by decide +kernel
theorem dX2_earns_25 : decode cX2_earns 25 = .ok (.invokevirtual 97, 3) := by decide +kernel
theorem dX2_earns_28 : decode cX2_earns 28 = .ok (.ifCond .eq 45, 3) := by decide +kernel
theorem dX2_earns_31 : decode cX2_earns 31 = .ok (.aload_n 0, 1) := by decide +kernel
theorem dX2_earns_32 : decode cX2_earns 32 = .ok (.getfield 36, 3) := by decide +kernel
theorem dX2_earns_35 : decode cX2_earns 35 = .ok (.iload 4, 2) := by decide +kernel
theorem dX2_earns_37 : decode cX2_earns 37 = .ok (.iaload, 1) := by decide +kernel
theorem dX2_earns_38 : decode cX2_earns 38 = .ok (.aload_n 0, 1) := by decide +kernel
theorem dX2_earns_39 : decode cX2_earns 39 = .ok (.getfield 39, 3) := by decide +kernel
theorem dX2_earns_42 : decode cX2_earns 42 = .ok (.iload 4, 2) := by decide +kernel
theorem dX2_earns_44 : decode cX2_earns 44 = .ok (.iaload, 1) := by decide +kernel
theorem dX2_earns_45 : decode cX2_earns 45 = .ok (.iconst 3, 1) := by decide +kernel
theorem dX2_earns_46 : decode cX2_earns 46 = .ok (.if_icmp .ne 13, 3) := by decide +kernel
theorem dX2_earns_49 : decode cX2_earns 49 = .ok (.aload_n 0, 1) := by decide +kernel
theorem dX2_earns_50 : decode cX2_earns 50 = .ok (.getfield 42, 3) := by decide +kernel
theorem dX2_earns_53 : decode cX2_earns 53 = .ok (.iload 4, 2) := by decide +kernel
theorem dX2_earns_55 : decode cX2_earns 55 = .ok (.iaload, 1) := by decide +kernel
theorem dX2_earns_56 : decode cX2_earns 56 = .ok (.goto 4, 3) := by decide +kernel
theorem dX2_earns_59 : decode cX2_earns 59 = .ok (.iconst 0, 1) := by decide +kernel
theorem dX2_earns_60 : decode cX2_earns 60 = .ok (.isub, 1) := by decide +kernel
theorem dX2_earns_61 : decode cX2_earns 61 = .ok (.istore 5, 2) := by decide +kernel
theorem dX2_earns_63 : decode cX2_earns 63 = .ok (.iload_n 3, 1) := by decide +kernel
theorem dX2_earns_64 : decode cX2_earns 64 = .ok (.iload 5, 2) := by decide +kernel
theorem dX2_earns_66 : decode cX2_earns 66 = .ok (.iload 5, 2) := by decide +kernel
theorem dX2_earns_68 : decode cX2_earns 68 = .ok (.iconst 5, 1) := by decide +kernel
theorem dX2_earns_69 : decode cX2_earns 69 = .ok (.idiv, 1) := by decide +kernel
theorem dX2_earns_70 : decode cX2_earns 70 = .ok (.isub, 1) := by decide +kernel
theorem dX2_earns_71 : decode cX2_earns 71 = .ok (.iadd, 1) := by decide +kernel
theorem dX2_earns_72 : decode cX2_earns 72 = .ok (.istore_n 3, 1) := by decide +kernel
theorem dX2_earns_73 : decode cX2_earns 73 = .ok (.iinc 4 1, 3) := by decide +kernel
theorem dX2_earns_76 : decode cX2_earns 76 = .ok (.goto (-71), 3) := by decide +kernel
theorem dX2_earns_79 : decode cX2_earns 79 = .ok (.iload_n 3, 1) := by decide +kernel
theorem dX2_earns_80 : decode cX2_earns 80 = .ok (.ireturn, 1) := by decide +kernel
set_option maxRecDepth 20000 in
theorem ggX2_topsUp_X2_belongs : GoodIn wsX2_topsUp wsX2_belongs := goodIn_r _ [7, 8, 9, 10, 22, 23, 24, 25, 26, 27, 28, 29, 30, 31, 32, 33, 34, 35, 36] (by decide +kernel) (by decide +kernel)
set_option maxRecDepth 20000 in
theorem gX2_topsUp_X2_belongs : GoodIn wsX2_topsUp (wsV RX2 97 RX2 yX2_belongs wsX2_belongs) := goodIn_app (goodIn_of _ (by decide +kernel)) ggX2_topsUp_X2_belongs
set_option maxRecDepth 20000 in
theorem ggX2_topsUp_X2_isVoided : GoodIn wsX2_topsUp wsX2_isVoided := goodIn_r _ [14, 8, 15, 16, 17, 22, 23, 24, 25, 26, 27, 28, 29, 30, 31, 32, 33, 34, 35, 36] (by decide +kernel) (by decide +kernel)
set_option maxRecDepth 20000 in
theorem gX2_topsUp_X2_isVoided : GoodIn wsX2_topsUp (wsV RX2 89 RX2 yX2_isVoided wsX2_isVoided) := goodIn_app (goodIn_of _ (by decide +kernel)) ggX2_topsUp_X2_isVoided
set_option maxRecDepth 20000 in
theorem ggX2_topsUp_X2_earns : GoodIn wsX2_topsUp wsX2_earns := goodIn_r _ [21, 1, 15, 16, 17, 3, 4, 5, 6, 7, 8, 9, 10, 22, 23, 24, 25, 26, 27, 28, 29, 30, 31, 32, 33, 34, 35, 36] (by decide +kernel) (by decide +kernel)
set_option maxRecDepth 20000 in
theorem gX2_topsUp_X2_earns : GoodIn wsX2_topsUp (wsV RX2 100 RX2 yX2_earns wsX2_earns) := goodIn_app (goodIn_of _ (by decide +kernel)) ggX2_topsUp_X2_earns
theorem dX2_topsUp_0 : decode cX2_topsUp 0 = .ok (.iconst 0, 1) := by decide +kernel
theorem dX2_topsUp_1 : decode cX2_topsUp 1 = .ok (.istore_n 3, 1) := by decide +kernel
theorem dX2_topsUp_2 : decode cX2_topsUp 2 = .ok (.iconst 0, 1) := by decide +kernel
theorem dX2_topsUp_3 : decode cX2_topsUp 3 = .ok (.istore 4, 2) := by decide +kernel
theorem dX2_topsUp_5 : decode cX2_topsUp 5 = .ok (.iload 4, 2) := by decide +kernel
theorem dX2_topsUp_7 : decode cX2_topsUp 7 = .ok (.aload_n 0, 1) := by decide +kernel
theorem dX2_topsUp_8 : decode cX2_topsUp 8 = .ok (.getfield 51, 3) := by decide +kernel
theorem dX2_topsUp_11 : decode cX2_topsUp 11 = .ok (.if_icmp .ge 43, 3) := by decide +kernel
theorem dX2_topsUp_14 : decode cX2_topsUp 14 = .ok (.iload_n 3, 1) := by decide +kernel
theorem dX2_topsUp_15 : decode cX2_topsUp 15 = .ok (.aload_n 0, 1) := by decide +kernel
theorem dX2_topsUp_16 : decode cX2_topsUp 16 = .ok (.iload 4, 2) := by decide +kernel
theorem dX2_topsUp_18 : decode cX2_topsUp 18 = .ok (.iload_n 1, 1) := by decide +kernel
theorem dX2_topsUp_19 : decode cX2_topsUp 19 = .ok (.iload_n 2, 1) := by decide +kernel
theorem dX2_topsUp_20 : decode cX2_topsUp 20 = .ok (.invokevirtual 97, 3) := by decide +kernel
theorem dX2_topsUp_23 : decode cX2_topsUp 23 = .ok (.ifCond .eq 22, 3) := by decide +kernel
theorem dX2_topsUp_26 : decode cX2_topsUp 26 = .ok (.aload_n 0, 1) := by decide +kernel
theorem dX2_topsUp_27 : decode cX2_topsUp 27 = .ok (.iload 4, 2) := by decide +kernel
theorem dX2_topsUp_29 : decode cX2_topsUp 29 = .ok (.invokevirtual 89, 3) := by decide +kernel
theorem dX2_topsUp_32 : decode cX2_topsUp 32 = .ok (.ifCond .ne 13, 3) := by decide +kernel
theorem dX2_topsUp_35 : decode cX2_topsUp 35 = .ok (.aload_n 0, 1) := by decide +kernel
theorem dX2_topsUp_36 : decode cX2_topsUp 36 = .ok (.getfield 23, 3) := by decide +kernel
theorem dX2_topsUp_39 : decode cX2_topsUp 39 = .ok (.iload 4, 2) := by decide +kernel
theorem dX2_topsUp_41 : decode cX2_topsUp 41 = .ok (.iaload, 1) := by decide +kernel
theorem dX2_topsUp_42 : decode cX2_topsUp 42 = .ok (.goto 4, 3) := by decide +kernel
theorem dX2_topsUp_45 : decode cX2_topsUp 45 = .ok (.iconst 0, 1) := by decide +kernel
theorem dX2_topsUp_46 : decode cX2_topsUp 46 = .ok (.iadd, 1) := by decide +kernel
theorem dX2_topsUp_47 : decode cX2_topsUp 47 = .ok (.istore_n 3, 1) := by decide +kernel
theorem dX2_topsUp_48 : decode cX2_topsUp 48 = .ok (.iinc 4 1, 3) := by decide +kernel
theorem dX2_topsUp_51 : decode cX2_topsUp 51 = .ok (.goto (-46), 3) := by decide +kernel
theorem dX2_topsUp_54 : decode cX2_topsUp 54 = .ok (.sipush 1500, 3) := by decide +kernel
theorem dX2_topsUp_57 : decode cX2_topsUp 57 = .ok (.iload_n 3, 1) := by decide +kernel
theorem dX2_topsUp_58 : decode cX2_topsUp 58 = .ok (.imul, 1) := by decide +kernel
theorem dX2_topsUp_59 : decode cX2_topsUp 59 = .ok (.bipush 60, 2) := by decide +kernel
theorem dX2_topsUp_61 : decode cX2_topsUp 61 = .ok (.idiv, 1) := by decide +kernel
theorem dX2_topsUp_62 : decode cX2_topsUp 62 = .ok (.aload_n 0, 1) := by decide +kernel
theorem dX2_topsUp_63 : decode cX2_topsUp 63 = .ok (.iload_n 1, 1) := by decide +kernel
theorem dX2_topsUp_64 : decode cX2_topsUp 64 = .ok (.iload_n 2, 1) := by decide +kernel
theorem dX2_topsUp_65 : decode cX2_topsUp 65 = .ok (.invokevirtual 100, 3) := by decide +kernel
theorem dX2_topsUp_68 : decode cX2_topsUp 68 = .ok (.isub, 1) := by decide +kernel
theorem dX2_topsUp_69 : decode cX2_topsUp 69 = .ok (.istore 4, 2) := by decide +kernel
theorem dX2_topsUp_71 : decode cX2_topsUp 71 = .ok (.iload 4, 2) := by decide +kernel
theorem dX2_topsUp_73 : decode cX2_topsUp 73 = .ok (.ifCond .le 8, 3) := by decide +kernel
theorem dX2_topsUp_76 : decode cX2_topsUp 76 = .ok (.iload 4, 2) := by decide +kernel
theorem dX2_topsUp_78 : decode cX2_topsUp 78 = .ok (.goto 4, 3) := by decide +kernel
theorem dX2_topsUp_81 : decode cX2_topsUp 81 = .ok (.iconst 0, 1) := by decide +kernel
theorem dX2_topsUp_82 : decode cX2_topsUp 82 = .ok (.ireturn, 1) := by decide +kernel
set_option maxRecDepth 20000 in
theorem ggX2_premium_X2_belongs : GoodIn wsX2_premium wsX2_belongs := goodIn_r _ [6, 7, 8, 9, 17, 18, 19, 20, 21, 22, 23, 24, 25, 26, 27, 28, 29, 30, 31] (by decide +kernel) (by decide +kernel)
set_option maxRecDepth 20000 in
theorem gX2_premium_X2_belongs : GoodIn wsX2_premium (wsV RX2 97 RX2 yX2_belongs wsX2_belongs) := goodIn_app (goodIn_of _ (by decide +kernel)) ggX2_premium_X2_belongs
set_option maxRecDepth 20000 in
theorem ggX2_premium_X2_isVoided : GoodIn wsX2_premium wsX2_isVoided := goodIn_r _ [13, 7, 14, 15, 16, 17, 18, 19, 20, 21, 22, 23, 24, 25, 26, 27, 28, 29, 30, 31] (by decide +kernel) (by decide +kernel)
set_option maxRecDepth 20000 in
theorem gX2_premium_X2_isVoided : GoodIn wsX2_premium (wsV RX2 89 RX2 yX2_isVoided wsX2_isVoided) := goodIn_app (goodIn_of _ (by decide +kernel)) ggX2_premium_X2_isVoided
theorem dX2_premium_0 : decode cX2_premium 0 = .ok (.iconst 0, 1) := by decide +kernel
theorem dX2_premium_1 : decode cX2_premium 1 = .ok (.istore_n 3, 1) := by decide +kernel
theorem dX2_premium_2 : decode cX2_premium 2 = .ok (.iconst 0, 1) := by decide +kernel
theorem dX2_premium_3 : decode cX2_premium 3 = .ok (.istore 4, 2) := by decide +kernel
theorem dX2_premium_5 : decode cX2_premium 5 = .ok (.iload 4, 2) := by decide +kernel
theorem dX2_premium_7 : decode cX2_premium 7 = .ok (.aload_n 0, 1) := by decide +kernel
theorem dX2_premium_8 : decode cX2_premium 8 = .ok (.getfield 51, 3) := by decide +kernel
theorem dX2_premium_11 : decode cX2_premium 11 = .ok (.if_icmp .ge 37, 3) := by decide +kernel
theorem dX2_premium_14 : decode cX2_premium 14 = .ok (.iload_n 3, 1) := by decide +kernel
theorem dX2_premium_15 : decode cX2_premium 15 = .ok (.aload_n 0, 1) := by decide +kernel
theorem dX2_premium_16 : decode cX2_premium 16 = .ok (.iload 4, 2) := by decide +kernel
theorem dX2_premium_18 : decode cX2_premium 18 = .ok (.iload_n 1, 1) := by decide +kernel
theorem dX2_premium_19 : decode cX2_premium 19 = .ok (.iload_n 2, 1) := by decide +kernel
theorem dX2_premium_20 : decode cX2_premium 20 = .ok (.invokevirtual 97, 3) := by decide +kernel
theorem dX2_premium_23 : decode cX2_premium 23 = .ok (.ifCond .eq 16, 3) := by decide +kernel
theorem dX2_premium_26 : decode cX2_premium 26 = .ok (.aload_n 0, 1) := by decide +kernel
theorem dX2_premium_27 : decode cX2_premium 27 = .ok (.iload 4, 2) := by decide +kernel
theorem dX2_premium_29 : decode cX2_premium 29 = .ok (.invokevirtual 89, 3) := by decide +kernel
theorem dX2_premium_32 : decode cX2_premium 32 = .ok (.ifCond .ne 7, 3) := by decide +kernel
theorem dX2_premium_35 : decode cX2_premium 35 = .ok (.iconst 1, 1) := by decide +kernel
theorem dX2_premium_36 : decode cX2_premium 36 = .ok (.goto 4, 3) := by decide +kernel
theorem dX2_premium_39 : decode cX2_premium 39 = .ok (.iconst 0, 1) := by decide +kernel
theorem dX2_premium_40 : decode cX2_premium 40 = .ok (.iadd, 1) := by decide +kernel
theorem dX2_premium_41 : decode cX2_premium 41 = .ok (.istore_n 3, 1) := by decide +kernel
theorem dX2_premium_42 : decode cX2_premium 42 = .ok (.iinc 4 1, 3) := by decide +kernel
theorem dX2_premium_45 : decode cX2_premium 45 = .ok (.goto (-40), 3) := by decide +kernel
theorem dX2_premium_48 : decode cX2_premium 48 = .ok (.iload_n 3, 1) := by decide +kernel
theorem dX2_premium_49 : decode cX2_premium 49 = .ok (.bipush 8, 2) := by decide +kernel
theorem dX2_premium_51 : decode cX2_premium 51 = .ok (.if_icmp .le 9, 3) := by decide +kernel
theorem dX2_premium_54 : decode cX2_premium 54 = .ok (.sipush 6000, 3) := by decide +kernel
theorem dX2_premium_57 : decode cX2_premium 57 = .ok (.goto 26, 3) := by decide +kernel
theorem dX2_premium_60 : decode cX2_premium 60 = .ok (.iload_n 3, 1) := by decide +kernel
theorem dX2_premium_61 : decode cX2_premium 61 = .ok (.iconst 5, 1) := by decide +kernel
theorem dX2_premium_62 : decode cX2_premium 62 = .ok (.if_icmp .le 9, 3) := by decide +kernel
theorem dX2_premium_65 : decode cX2_premium 65 = .ok (.sipush 3000, 3) := by decide +kernel
theorem dX2_premium_68 : decode cX2_premium 68 = .ok (.goto 15, 3) := by decide +kernel
theorem dX2_premium_71 : decode cX2_premium 71 = .ok (.iload_n 3, 1) := by decide +kernel
theorem dX2_premium_72 : decode cX2_premium 72 = .ok (.iconst 2, 1) := by decide +kernel
theorem dX2_premium_73 : decode cX2_premium 73 = .ok (.if_icmp .le 9, 3) := by decide +kernel
theorem dX2_premium_76 : decode cX2_premium 76 = .ok (.sipush 1000, 3) := by decide +kernel
theorem dX2_premium_79 : decode cX2_premium 79 = .ok (.goto 4, 3) := by decide +kernel
theorem dX2_premium_82 : decode cX2_premium 82 = .ok (.iconst 0, 1) := by decide +kernel
theorem dX2_premium_83 : decode cX2_premium 83 = .ok (.ireturn, 1) := by decide +kernel
set_option maxRecDepth 20000 in
theorem ggX2_pays_X2_earns : GoodIn wsX2_pays wsX2_earns := goodIn_r _ [5, 6, 7, 8, 9, 10, 11, 12, 4, 13, 14, 15, 16, 30, 31, 32, 33, 34, 35, 36, 37, 38, 39, 40, 41, 42, 43, 44] (by decide +kernel) (by decide +kernel)
set_option maxRecDepth 20000 in
theorem gX2_pays_X2_earns : GoodIn wsX2_pays (wsV RX2 100 RX2 yX2_earns wsX2_earns) := goodIn_app (goodIn_of _ (by decide +kernel)) ggX2_pays_X2_earns
set_option maxRecDepth 20000 in
theorem ggX2_pays_X2_topsUp : GoodIn wsX2_pays wsX2_topsUp := goodIn_r _ [20, 6, 21, 10, 11, 12, 4, 13, 14, 15, 16, 22, 23, 24, 25, 7, 8, 9, 1, 2, 3, 5, 30, 31, 32, 33, 34, 35, 36, 37, 38, 39, 40, 41, 42, 43, 44] (by decide +kernel) (by decide +kernel)
set_option maxRecDepth 20000 in
theorem gX2_pays_X2_topsUp : GoodIn wsX2_pays (wsV RX2 103 RX2 yX2_topsUp wsX2_topsUp) := goodIn_app (goodIn_of _ (by decide +kernel)) ggX2_pays_X2_topsUp
set_option maxRecDepth 20000 in
theorem ggX2_pays_X2_premium : GoodIn wsX2_pays wsX2_premium := goodIn_r _ [29, 6, 10, 11, 12, 4, 13, 14, 15, 16, 22, 23, 24, 25, 7, 8, 9, 30, 31, 32, 33, 34, 35, 36, 37, 38, 39, 40, 41, 42, 43, 44] (by decide +kernel) (by decide +kernel)
set_option maxRecDepth 20000 in
theorem gX2_pays_X2_premium : GoodIn wsX2_pays (wsV RX2 106 RX2 yX2_premium wsX2_premium) := goodIn_app (goodIn_of _ (by decide +kernel)) ggX2_pays_X2_premium
theorem dX2_pays_0 : decode cX2_pays 0 = .ok (.aload_n 0, 1) := by decide +kernel
theorem dX2_pays_1 : decode cX2_pays 1 = .ok (.iload_n 1, 1) := by decide +kernel
theorem dX2_pays_2 : decode cX2_pays 2 = .ok (.iload_n 2, 1) := by decide +kernel
theorem dX2_pays_3 : decode cX2_pays 3 = .ok (.invokevirtual 100, 3) := by decide +kernel
theorem dX2_pays_6 : decode cX2_pays 6 = .ok (.aload_n 0, 1) := by decide +kernel
theorem dX2_pays_7 : decode cX2_pays 7 = .ok (.iload_n 1, 1) := by decide +kernel
theorem dX2_pays_8 : decode cX2_pays 8 = .ok (.iload_n 2, 1) := by decide +kernel
theorem dX2_pays_9 : decode cX2_pays 9 = .ok (.invokevirtual 103, 3) := by decide +kernel
theorem dX2_pays_12 : decode cX2_pays 12 = .ok (.iadd, 1) := by decide +kernel
theorem dX2_pays_13 : decode cX2_pays 13 = .ok (.aload_n 0, 1) := by decide +kernel
theorem dX2_pays_14 : decode cX2_pays 14 = .ok (.iload_n 1, 1) := by decide +kernel
theorem dX2_pays_15 : decode cX2_pays 15 = .ok (.iload_n 2, 1) := by decide +kernel
theorem dX2_pays_16 : decode cX2_pays 16 = .ok (.invokevirtual 106, 3) := by decide +kernel
theorem dX2_pays_19 : decode cX2_pays 19 = .ok (.iadd, 1) := by decide +kernel
theorem dX2_pays_20 : decode cX2_pays 20 = .ok (.ireturn, 1) := by decide +kernel
set_option maxRecDepth 20000 in
theorem ggX2_owes_X2_pays : GoodIn wsX2_owes wsX2_pays := goodIn_r _ [6, 7, 8, 9, 5, 10, 11, 12, 13, 14, 15, 16, 17, 18, 19, 20, 21, 22, 23, 24, 25, 26, 27, 28, 29, 30, 31, 32, 33, 34, 35, 36, 37, 38, 39, 40, 41, 42, 43, 44, 45, 46, 47, 48, 49] (by decide +kernel) (by decide +kernel)
set_option maxRecDepth 20000 in
theorem gX2_owes_X2_pays : GoodIn wsX2_owes (wsV RX2 109 RX2 yX2_pays wsX2_pays) := goodIn_app (goodIn_of _ (by decide +kernel)) ggX2_owes_X2_pays
theorem dX2_owes_0 : decode cX2_owes 0 = .ok (.aload_n 0, 1) := by decide +kernel
theorem dX2_owes_1 : decode cX2_owes 1 = .ok (.getfield 45, 3) := by decide +kernel
theorem dX2_owes_4 : decode cX2_owes 4 = .ok (.iload_n 1, 1) := by decide +kernel
theorem dX2_owes_5 : decode cX2_owes 5 = .ok (.iaload, 1) := by decide +kernel
theorem dX2_owes_6 : decode cX2_owes 6 = .ok (.ineg, 1) := by decide +kernel
theorem dX2_owes_7 : decode cX2_owes 7 = .ok (.istore_n 3, 1) := by decide +kernel
theorem dX2_owes_8 : decode cX2_owes 8 = .ok (.iconst 0, 1) := by decide +kernel
theorem dX2_owes_9 : decode cX2_owes 9 = .ok (.istore 4, 2) := by decide +kernel
theorem dX2_owes_11 : decode cX2_owes 11 = .ok (.iload 4, 2) := by decide +kernel
theorem dX2_owes_13 : decode cX2_owes 13 = .ok (.iload_n 2, 1) := by decide +kernel
theorem dX2_owes_14 : decode cX2_owes 14 = .ok (.if_icmp .ge 19, 3) := by decide +kernel
theorem dX2_owes_17 : decode cX2_owes 17 = .ok (.iload_n 3, 1) := by decide +kernel
theorem dX2_owes_18 : decode cX2_owes 18 = .ok (.aload_n 0, 1) := by decide +kernel
theorem dX2_owes_19 : decode cX2_owes 19 = .ok (.iload_n 1, 1) := by decide +kernel
theorem dX2_owes_20 : decode cX2_owes 20 = .ok (.iload 4, 2) := by decide +kernel
theorem dX2_owes_22 : decode cX2_owes 22 = .ok (.invokevirtual 109, 3) := by decide +kernel
theorem dX2_owes_25 : decode cX2_owes 25 = .ok (.iadd, 1) := by decide +kernel
theorem dX2_owes_26 : decode cX2_owes 26 = .ok (.istore_n 3, 1) := by decide +kernel
theorem dX2_owes_27 : decode cX2_owes 27 = .ok (.iinc 4 1, 3) := by decide +kernel
theorem dX2_owes_30 : decode cX2_owes 30 = .ok (.goto (-19), 3) := by decide +kernel
theorem dX2_owes_33 : decode cX2_owes 33 = .ok (.iload_n 3, 1) := by decide +kernel
theorem dX2_owes_34 : decode cX2_owes 34 = .ok (.ireturn, 1) := by decide +kernel
set_option maxRecDepth 20000 in
theorem ggX2_closeWeek_X2_isUnderWay : GoodIn wsX2_closeWeek wsX2_isUnderWay := goodIn_r _ [7, 8, 9, 10, 49, 50, 51, 52, 53, 54, 55, 56, 57, 58, 59, 60, 61, 62, 63] (by decide +kernel) (by decide +kernel)
set_option maxRecDepth 20000 in
theorem gX2_closeWeek_X2_isUnderWay : GoodIn wsX2_closeWeek (wsV RX2 68 RX2 yX2_isUnderWay wsX2_isUnderWay) := goodIn_app (goodIn_of _ (by decide +kernel)) ggX2_closeWeek_X2_isUnderWay
set_option maxRecDepth 20000 in
theorem ggX2_closeWeek_X2_fails : GoodIn wsX2_closeWeek wsX2_fails := goodIn_r _ [14, 15, 49, 50, 51, 52, 53, 54, 55, 56, 57, 58, 59, 60, 61, 62, 63] (by decide +kernel) (by decide +kernel)
set_option maxRecDepth 20000 in
theorem gX2_closeWeek_X2_fails : GoodIn wsX2_closeWeek (wsV RX2 62 RX2 yX2_fails wsX2_fails) := goodIn_app (goodIn_of _ (by decide +kernel)) ggX2_closeWeek_X2_fails
set_option maxRecDepth 20000 in
theorem ggX2_closeWeek_X2_owes : GoodIn wsX2_closeWeek wsX2_owes := goodIn_r _ [19, 2, 20, 21, 22, 6, 23, 24, 25, 26, 27, 8, 28, 29, 30, 31, 32, 33, 34, 9, 10, 35, 36, 37, 38, 39, 40, 41, 42, 43, 44, 45, 46, 47, 48, 49, 50, 51, 52, 53, 54, 55, 56, 57, 58, 59, 60, 61, 62, 63] (by decide +kernel) (by decide +kernel)
set_option maxRecDepth 20000 in
theorem gX2_closeWeek_X2_owes : GoodIn wsX2_closeWeek (wsV RX2 112 RX2 yX2_owes wsX2_owes) := goodIn_app (goodIn_of _ (by decide +kernel)) ggX2_closeWeek_X2_owes
theorem dX2_closeWeek_0 : decode cX2_closeWeek 0 = .ok (.aload_n 0, 1) := by decide +kernel
theorem dX2_closeWeek_1 : decode cX2_closeWeek 1 = .ok (.aload_n 0, 1) := by decide +kernel
theorem dX2_closeWeek_2 : decode cX2_closeWeek 2 = .ok (.iconst (-1), 1) := by decide +kernel
theorem dX2_closeWeek_3 : decode cX2_closeWeek 3 = .ok (.invokevirtual 68, 3) := by decide +kernel
theorem dX2_closeWeek_6 : decode cX2_closeWeek 6 = .ok (.ifCond .ne 12, 3) := by decide +kernel
theorem dX2_closeWeek_9 : decode cX2_closeWeek 9 = .ok (.aload_n 0, 1) := by decide +kernel
theorem dX2_closeWeek_10 : decode cX2_closeWeek 10 = .ok (.getfield 71, 3) := by decide +kernel
theorem dX2_closeWeek_13 : decode cX2_closeWeek 13 = .ok (.bipush 20, 2) := by decide +kernel
theorem dX2_closeWeek_15 : decode cX2_closeWeek 15 = .ok (.if_icmp .ne 7, 3) := by decide +kernel
theorem dX2_closeWeek_18 : decode cX2_closeWeek 18 = .ok (.iconst 1, 1) := by decide +kernel
theorem dX2_closeWeek_19 : decode cX2_closeWeek 19 = .ok (.goto 4, 3) := by decide +kernel
theorem dX2_closeWeek_22 : decode cX2_closeWeek 22 = .ok (.iconst 0, 1) := by decide +kernel
theorem dX2_closeWeek_23 : decode cX2_closeWeek 23 = .ok (.invokevirtual 62, 3) := by decide +kernel
theorem dX2_closeWeek_26 : decode cX2_closeWeek 26 = .ok (.ifCond .eq 5, 3) := by decide +kernel
theorem dX2_closeWeek_29 : decode cX2_closeWeek 29 = .ok (.iconst 0, 1) := by decide +kernel
theorem dX2_closeWeek_30 : decode cX2_closeWeek 30 = .ok (.ireturn, 1) := by decide +kernel
theorem dX2_closeWeek_31 : decode cX2_closeWeek 31 = .ok (.iconst 0, 1) := by decide +kernel
theorem dX2_closeWeek_32 : decode cX2_closeWeek 32 = .ok (.istore_n 1, 1) := by decide +kernel
theorem dX2_closeWeek_33 : decode cX2_closeWeek 33 = .ok (.iconst 0, 1) := by decide +kernel
theorem dX2_closeWeek_34 : decode cX2_closeWeek 34 = .ok (.istore_n 2, 1) := by decide +kernel
theorem dX2_closeWeek_35 : decode cX2_closeWeek 35 = .ok (.iload_n 2, 1) := by decide +kernel
theorem dX2_closeWeek_36 : decode cX2_closeWeek 36 = .ok (.iconst 5, 1) := by decide +kernel
theorem dX2_closeWeek_37 : decode cX2_closeWeek 37 = .ok (.if_icmp .ge 51, 3) := by decide +kernel
theorem dX2_closeWeek_40 : decode cX2_closeWeek 40 = .ok (.aload_n 0, 1) := by decide +kernel
theorem dX2_closeWeek_41 : decode cX2_closeWeek 41 = .ok (.iload_n 2, 1) := by decide +kernel
theorem dX2_closeWeek_42 : decode cX2_closeWeek 42 = .ok (.aload_n 0, 1) := by decide +kernel
theorem dX2_closeWeek_43 : decode cX2_closeWeek 43 = .ok (.getfield 71, 3) := by decide +kernel
theorem dX2_closeWeek_46 : decode cX2_closeWeek 46 = .ok (.iconst 1, 1) := by decide +kernel
theorem dX2_closeWeek_47 : decode cX2_closeWeek 47 = .ok (.iadd, 1) := by decide +kernel
theorem dX2_closeWeek_48 : decode cX2_closeWeek 48 = .ok (.invokevirtual 112, 3) := by decide +kernel
theorem dX2_closeWeek_51 : decode cX2_closeWeek 51 = .ok (.istore_n 3, 1) := by decide +kernel
theorem dX2_closeWeek_52 : decode cX2_closeWeek 52 = .ok (.aload_n 0, 1) := by decide +kernel
theorem dX2_closeWeek_53 : decode cX2_closeWeek 53 = .ok (.getfield 45, 3) := by decide +kernel
theorem dX2_closeWeek_56 : decode cX2_closeWeek 56 = .ok (.iload_n 2, 1) := by decide +kernel
theorem dX2_closeWeek_57 : decode cX2_closeWeek 57 = .ok (.dup2, 1) := by decide +kernel
theorem dX2_closeWeek_58 : decode cX2_closeWeek 58 = .ok (.iaload, 1) := by decide +kernel
theorem dX2_closeWeek_59 : decode cX2_closeWeek 59 = .ok (.iload_n 3, 1) := by decide +kernel
theorem dX2_closeWeek_60 : decode cX2_closeWeek 60 = .ok (.ifCond .le 7, 3) := by decide +kernel
theorem dX2_closeWeek_63 : decode cX2_closeWeek 63 = .ok (.iload_n 3, 1) := by decide +kernel
theorem dX2_closeWeek_64 : decode cX2_closeWeek 64 = .ok (.goto 4, 3) := by decide +kernel
theorem dX2_closeWeek_67 : decode cX2_closeWeek 67 = .ok (.iconst 0, 1) := by decide +kernel
theorem dX2_closeWeek_68 : decode cX2_closeWeek 68 = .ok (.iadd, 1) := by decide +kernel
theorem dX2_closeWeek_69 : decode cX2_closeWeek 69 = .ok (.iastore, 1) := by decide +kernel
theorem dX2_closeWeek_70 : decode cX2_closeWeek 70 = .ok (.iload_n 1, 1) := by decide +kernel
theorem dX2_closeWeek_71 : decode cX2_closeWeek 71 = .ok (.iload_n 3, 1) := by decide +kernel
theorem dX2_closeWeek_72 : decode cX2_closeWeek 72 = .ok (.ifCond .le 7, 3) := by decide +kernel
theorem dX2_closeWeek_75 : decode cX2_closeWeek 75 = .ok (.iload_n 3, 1) := by decide +kernel
theorem dX2_closeWeek_76 : decode cX2_closeWeek 76 = .ok (.goto 4, 3) := by decide +kernel
theorem dX2_closeWeek_79 : decode cX2_closeWeek 79 = .ok (.iconst 0, 1) := by decide +kernel
theorem dX2_closeWeek_80 : decode cX2_closeWeek 80 = .ok (.iadd, 1) := by decide +kernel
theorem dX2_closeWeek_81 : decode cX2_closeWeek 81 = .ok (.istore_n 1, 1) := by decide +kernel
theorem dX2_closeWeek_82 : decode cX2_closeWeek 82 = .ok (.iinc 2 1, 3) := by decide +kernel
theorem dX2_closeWeek_85 : decode cX2_closeWeek 85 = .ok (.goto (-50), 3) := by decide +kernel
theorem dX2_closeWeek_88 : decode cX2_closeWeek 88 = .ok (.aload_n 0, 1) := by decide +kernel
theorem dX2_closeWeek_89 : decode cX2_closeWeek 89 = .ok (.dup, 1) := by decide +kernel
theorem dX2_closeWeek_90 : decode cX2_closeWeek 90 = .ok (.getfield 71, 3) := by decide +kernel
theorem dX2_closeWeek_93 : decode cX2_closeWeek 93 = .ok (.iconst 1, 1) := by decide +kernel
theorem dX2_closeWeek_94 : decode cX2_closeWeek 94 = .ok (.iadd, 1) := by decide +kernel
theorem dX2_closeWeek_95 : decode cX2_closeWeek 95 = .ok (.putfield 71, 3) := by decide +kernel
theorem dX2_closeWeek_98 : decode cX2_closeWeek 98 = .ok (.iload_n 1, 1) := by decide +kernel
theorem dX2_closeWeek_99 : decode cX2_closeWeek 99 = .ok (.ireturn, 1) := by decide +kernel
set_option maxRecDepth 20000 in
theorem ggX2_week_X2_tells : GoodIn wsX2_week wsX2_tells := goodIn_r _ [6, 7, 8, 9, 10, 11, 12, 13, 14, 15, 16, 17, 18, 19, 20, 21, 22] (by decide +kernel) (by decide +kernel)
set_option maxRecDepth 20000 in
theorem gX2_week_X2_tells : GoodIn wsX2_week (wsV RX2 94 RX2 yX2_tells wsX2_tells) := goodIn_app (goodIn_of _ (by decide +kernel)) ggX2_week_X2_tells
theorem dX2_week_0 : decode cX2_week 0 = .ok (.aload_n 0, 1) := by decide +kernel
theorem dX2_week_1 : decode cX2_week 1 = .ok (.aload_n 0, 1) := by decide +kernel
theorem dX2_week_2 : decode cX2_week 2 = .ok (.getfield 71, 3) := by decide +kernel
theorem dX2_week_5 : decode cX2_week 5 = .ok (.invokevirtual 94, 3) := by decide +kernel
theorem dX2_week_8 : decode cX2_week 8 = .ok (.ireturn, 1) := by decide +kernel
set_option maxRecDepth 20000 in
theorem ggX2_isNoWeek_X2_isDriver : GoodIn wsX2_isNoWeek wsX2_isDriver := goodIn_r _ [5, 6, 7, 4, 8] (by decide +kernel) (by decide +kernel)
set_option maxRecDepth 20000 in
theorem gX2_isNoWeek_X2_isDriver : GoodIn wsX2_isNoWeek (va_wsS RX2 65 yX2_isDriver wsX2_isDriver) := goodIn_app (goodIn_of _ (by decide +kernel)) ggX2_isNoWeek_X2_isDriver
set_option maxRecDepth 20000 in
theorem ggX2_isNoWeek_X2_isIn : GoodIn wsX2_isNoWeek wsX2_isIn := goodIn_r _ [8] (by decide +kernel) (by decide +kernel)
set_option maxRecDepth 20000 in
theorem gX2_isNoWeek_X2_isIn : GoodIn wsX2_isNoWeek (va_wsS RX2 54 yX2_isIn wsX2_isIn) := goodIn_app (goodIn_of _ (by decide +kernel)) ggX2_isNoWeek_X2_isIn
set_option maxRecDepth 20000 in
theorem ggX2_isNoWeek_X2_fails : GoodIn wsX2_isNoWeek wsX2_fails := goodIn_r _ [12, 13, 14, 15, 16, 17, 18, 19, 20, 21, 22, 23, 24, 25, 26, 27, 28] (by decide +kernel) (by decide +kernel)
set_option maxRecDepth 20000 in
theorem gX2_isNoWeek_X2_fails : GoodIn wsX2_isNoWeek (wsV RX2 62 RX2 yX2_fails wsX2_fails) := goodIn_app (goodIn_of _ (by decide +kernel)) ggX2_isNoWeek_X2_fails
theorem dX2_isNoWeek_0 : decode cX2_isNoWeek 0 = .ok (.aload_n 0, 1) := by decide +kernel
theorem dX2_isNoWeek_1 : decode cX2_isNoWeek 1 = .ok (.iload_n 1, 1) := by decide +kernel
theorem dX2_isNoWeek_2 : decode cX2_isNoWeek 2 = .ok (.invokestatic 65, 3) := by decide +kernel
theorem dX2_isNoWeek_5 : decode cX2_isNoWeek 5 = .ok (.ifCond .ne 7, 3) := by decide +kernel
theorem dX2_isNoWeek_8 : decode cX2_isNoWeek 8 = .ok (.iconst 1, 1) := by decide +kernel
theorem dX2_isNoWeek_9 : decode cX2_isNoWeek 9 = .ok (.goto 20, 3) := by decide +kernel
theorem dX2_isNoWeek_12 : decode cX2_isNoWeek 12 = .ok (.iload_n 2, 1) := by decide +kernel
theorem dX2_isNoWeek_13 : decode cX2_isNoWeek 13 = .ok (.iconst 0, 1) := by decide +kernel
theorem dX2_isNoWeek_14 : decode cX2_isNoWeek 14 = .ok (.aload_n 0, 1) := by decide +kernel
theorem dX2_isNoWeek_15 : decode cX2_isNoWeek 15 = .ok (.getfield 71, 3) := by decide +kernel
theorem dX2_isNoWeek_18 : decode cX2_isNoWeek 18 = .ok (.invokestatic 54, 3) := by decide +kernel
theorem dX2_isNoWeek_21 : decode cX2_isNoWeek 21 = .ok (.ifCond .eq 7, 3) := by decide +kernel
theorem dX2_isNoWeek_24 : decode cX2_isNoWeek 24 = .ok (.iconst 0, 1) := by decide +kernel
theorem dX2_isNoWeek_25 : decode cX2_isNoWeek 25 = .ok (.goto 4, 3) := by decide +kernel
theorem dX2_isNoWeek_28 : decode cX2_isNoWeek 28 = .ok (.iconst 2, 1) := by decide +kernel
theorem dX2_isNoWeek_29 : decode cX2_isNoWeek 29 = .ok (.invokevirtual 62, 3) := by decide +kernel
theorem dX2_isNoWeek_32 : decode cX2_isNoWeek 32 = .ok (.ireturn, 1) := by decide +kernel
set_option maxRecDepth 20000 in
theorem ggX2_earnings_X2_isNoWeek : GoodIn wsX2_earnings wsX2_isNoWeek := goodIn_r _ [5, 6, 7, 8, 4, 9, 10, 11, 12, 13, 14, 15, 16, 17, 33, 34, 35, 36, 37, 38, 39, 40, 41, 42, 43, 44, 45, 46, 47] (by decide +kernel) (by decide +kernel)
set_option maxRecDepth 20000 in
theorem gX2_earnings_X2_isNoWeek : GoodIn wsX2_earnings (wsV RX2 115 RX2 yX2_isNoWeek wsX2_isNoWeek) := goodIn_app (goodIn_of _ (by decide +kernel)) ggX2_earnings_X2_isNoWeek
set_option maxRecDepth 20000 in
theorem ggX2_earnings_X2_earns : GoodIn wsX2_earnings wsX2_earns := goodIn_r _ [21, 22, 23, 24, 25, 26, 27, 28, 4, 29, 30, 31, 32, 33, 34, 35, 36, 37, 38, 39, 40, 41, 42, 43, 44, 45, 46, 47] (by decide +kernel) (by decide +kernel)
set_option maxRecDepth 20000 in
theorem gX2_earnings_X2_earns : GoodIn wsX2_earnings (wsV RX2 100 RX2 yX2_earns wsX2_earns) := goodIn_app (goodIn_of _ (by decide +kernel)) ggX2_earnings_X2_earns
theorem dX2_earnings_0 : decode cX2_earnings 0 = .ok (.aload_n 0, 1) := by decide +kernel
theorem dX2_earnings_1 : decode cX2_earnings 1 = .ok (.iload_n 1, 1) := by decide +kernel
theorem dX2_earnings_2 : decode cX2_earnings 2 = .ok (.iload_n 2, 1) := by decide +kernel
theorem dX2_earnings_3 : decode cX2_earnings 3 = .ok (.invokevirtual 115, 3) := by decide +kernel
theorem dX2_earnings_6 : decode cX2_earnings 6 = .ok (.ifCond .eq 7, 3) := by decide +kernel
theorem dX2_earnings_9 : decode cX2_earnings 9 = .ok (.iconst 0, 1) := by decide +kernel
theorem dX2_earnings_10 : decode cX2_earnings 10 = .ok (.goto 9, 3) := by decide +kernel
theorem dX2_earnings_13 : decode cX2_earnings 13 = .ok (.aload_n 0, 1) := by decide +kernel
theorem dX2_earnings_14 : decode cX2_earnings 14 = .ok (.iload_n 1, 1) := by decide +kernel
theorem dX2_earnings_15 : decode cX2_earnings 15 = .ok (.iload_n 2, 1) := by decide +kernel
theorem dX2_earnings_16 : decode cX2_earnings 16 = .ok (.invokevirtual 100, 3) := by decide +kernel
theorem dX2_earnings_19 : decode cX2_earnings 19 = .ok (.ireturn, 1) := by decide +kernel
set_option maxRecDepth 20000 in
theorem ggX2_topUp_X2_isNoWeek : GoodIn wsX2_topUp wsX2_isNoWeek := goodIn_r _ [5, 6, 7, 8, 4, 9, 10, 11, 12, 13, 14, 15, 16, 17, 42, 43, 44, 45, 46, 47, 48, 49, 50, 51, 52, 53, 54, 55, 56] (by decide +kernel) (by decide +kernel)
set_option maxRecDepth 20000 in
theorem gX2_topUp_X2_isNoWeek : GoodIn wsX2_topUp (wsV RX2 115 RX2 yX2_isNoWeek wsX2_isNoWeek) := goodIn_app (goodIn_of _ (by decide +kernel)) ggX2_topUp_X2_isNoWeek
set_option maxRecDepth 20000 in
theorem ggX2_topUp_X2_topsUp : GoodIn wsX2_topUp wsX2_topsUp := goodIn_r _ [21, 22, 23, 24, 25, 26, 4, 27, 28, 29, 30, 31, 32, 33, 34, 35, 36, 37, 38, 39, 40, 41, 42, 43, 44, 45, 46, 47, 48, 49, 50, 51, 52, 53, 54, 55, 56] (by decide +kernel) (by decide +kernel)
set_option maxRecDepth 20000 in
theorem gX2_topUp_X2_topsUp : GoodIn wsX2_topUp (wsV RX2 103 RX2 yX2_topsUp wsX2_topsUp) := goodIn_app (goodIn_of _ (by decide +kernel)) ggX2_topUp_X2_topsUp
theorem dX2_topUp_0 : decode cX2_topUp 0 = .ok (.aload_n 0, 1) := by decide +kernel
theorem dX2_topUp_1 : decode cX2_topUp 1 = .ok (.iload_n 1, 1) := by decide +kernel
theorem dX2_topUp_2 : decode cX2_topUp 2 = .ok (.iload_n 2, 1) := by decide +kernel
theorem dX2_topUp_3 : decode cX2_topUp 3 = .ok (.invokevirtual 115, 3) := by decide +kernel
theorem dX2_topUp_6 : decode cX2_topUp 6 = .ok (.ifCond .eq 7, 3) := by decide +kernel
theorem dX2_topUp_9 : decode cX2_topUp 9 = .ok (.iconst 0, 1) := by decide +kernel
theorem dX2_topUp_10 : decode cX2_topUp 10 = .ok (.goto 9, 3) := by decide +kernel
theorem dX2_topUp_13 : decode cX2_topUp 13 = .ok (.aload_n 0, 1) := by decide +kernel
theorem dX2_topUp_14 : decode cX2_topUp 14 = .ok (.iload_n 1, 1) := by decide +kernel
theorem dX2_topUp_15 : decode cX2_topUp 15 = .ok (.iload_n 2, 1) := by decide +kernel
theorem dX2_topUp_16 : decode cX2_topUp 16 = .ok (.invokevirtual 103, 3) := by decide +kernel
theorem dX2_topUp_19 : decode cX2_topUp 19 = .ok (.ireturn, 1) := by decide +kernel
set_option maxRecDepth 20000 in
theorem ggX2_bonus_X2_isNoWeek : GoodIn wsX2_bonus wsX2_isNoWeek := goodIn_r _ [5, 6, 7, 8, 4, 9, 10, 11, 12, 13, 14, 15, 16, 17, 37, 38, 39, 40, 41, 42, 43, 44, 45, 46, 47, 48, 49, 50, 51] (by decide +kernel) (by decide +kernel)
set_option maxRecDepth 20000 in
theorem gX2_bonus_X2_isNoWeek : GoodIn wsX2_bonus (wsV RX2 115 RX2 yX2_isNoWeek wsX2_isNoWeek) := goodIn_app (goodIn_of _ (by decide +kernel)) ggX2_bonus_X2_isNoWeek
set_option maxRecDepth 20000 in
theorem ggX2_bonus_X2_premium : GoodIn wsX2_bonus wsX2_premium := goodIn_r _ [21, 22, 23, 24, 25, 4, 26, 27, 28, 29, 30, 31, 32, 33, 34, 35, 36, 37, 38, 39, 40, 41, 42, 43, 44, 45, 46, 47, 48, 49, 50, 51] (by decide +kernel) (by decide +kernel)
set_option maxRecDepth 20000 in
theorem gX2_bonus_X2_premium : GoodIn wsX2_bonus (wsV RX2 106 RX2 yX2_premium wsX2_premium) := goodIn_app (goodIn_of _ (by decide +kernel)) ggX2_bonus_X2_premium
theorem dX2_bonus_0 : decode cX2_bonus 0 = .ok (.aload_n 0, 1) := by decide +kernel
theorem dX2_bonus_1 : decode cX2_bonus 1 = .ok (.iload_n 1, 1) := by decide +kernel
theorem dX2_bonus_2 : decode cX2_bonus 2 = .ok (.iload_n 2, 1) := by decide +kernel
theorem dX2_bonus_3 : decode cX2_bonus 3 = .ok (.invokevirtual 115, 3) := by decide +kernel
theorem dX2_bonus_6 : decode cX2_bonus 6 = .ok (.ifCond .eq 7, 3) := by decide +kernel
theorem dX2_bonus_9 : decode cX2_bonus 9 = .ok (.iconst 0, 1) := by decide +kernel
theorem dX2_bonus_10 : decode cX2_bonus 10 = .ok (.goto 9, 3) := by decide +kernel
theorem dX2_bonus_13 : decode cX2_bonus 13 = .ok (.aload_n 0, 1) := by decide +kernel
theorem dX2_bonus_14 : decode cX2_bonus 14 = .ok (.iload_n 1, 1) := by decide +kernel
theorem dX2_bonus_15 : decode cX2_bonus 15 = .ok (.iload_n 2, 1) := by decide +kernel
theorem dX2_bonus_16 : decode cX2_bonus 16 = .ok (.invokevirtual 106, 3) := by decide +kernel
theorem dX2_bonus_19 : decode cX2_bonus 19 = .ok (.ireturn, 1) := by decide +kernel
set_option maxRecDepth 20000 in
theorem ggX2_pay_X2_isNoWeek : GoodIn wsX2_pay wsX2_isNoWeek := goodIn_r _ [5, 6, 7, 8, 4, 9, 10, 11, 12, 13, 14, 15, 16, 17, 50, 51, 52, 53, 54, 55, 56, 57, 58, 59, 60, 61, 62, 63, 64] (by decide +kernel) (by decide +kernel)
set_option maxRecDepth 20000 in
theorem gX2_pay_X2_isNoWeek : GoodIn wsX2_pay (wsV RX2 115 RX2 yX2_isNoWeek wsX2_isNoWeek) := goodIn_app (goodIn_of _ (by decide +kernel)) ggX2_pay_X2_isNoWeek
set_option maxRecDepth 20000 in
theorem ggX2_pay_X2_pays : GoodIn wsX2_pay wsX2_pays := goodIn_r _ [21, 22, 23, 24, 4, 25, 26, 27, 28, 29, 30, 31, 32, 33, 34, 35, 36, 37, 38, 39, 40, 41, 42, 43, 44, 45, 46, 47, 48, 49, 50, 51, 52, 53, 54, 55, 56, 57, 58, 59, 60, 61, 62, 63, 64] (by decide +kernel) (by decide +kernel)
set_option maxRecDepth 20000 in
theorem gX2_pay_X2_pays : GoodIn wsX2_pay (wsV RX2 109 RX2 yX2_pays wsX2_pays) := goodIn_app (goodIn_of _ (by decide +kernel)) ggX2_pay_X2_pays
theorem dX2_pay_0 : decode cX2_pay 0 = .ok (.aload_n 0, 1) := by decide +kernel
theorem dX2_pay_1 : decode cX2_pay 1 = .ok (.iload_n 1, 1) := by decide +kernel
theorem dX2_pay_2 : decode cX2_pay 2 = .ok (.iload_n 2, 1) := by decide +kernel
theorem dX2_pay_3 : decode cX2_pay 3 = .ok (.invokevirtual 115, 3) := by decide +kernel
theorem dX2_pay_6 : decode cX2_pay 6 = .ok (.ifCond .eq 7, 3) := by decide +kernel
theorem dX2_pay_9 : decode cX2_pay 9 = .ok (.iconst 0, 1) := by decide +kernel
theorem dX2_pay_10 : decode cX2_pay 10 = .ok (.goto 9, 3) := by decide +kernel
theorem dX2_pay_13 : decode cX2_pay 13 = .ok (.aload_n 0, 1) := by decide +kernel
theorem dX2_pay_14 : decode cX2_pay 14 = .ok (.iload_n 1, 1) := by decide +kernel
theorem dX2_pay_15 : decode cX2_pay 15 = .ok (.iload_n 2, 1) := by decide +kernel
theorem dX2_pay_16 : decode cX2_pay 16 = .ok (.invokevirtual 109, 3) := by decide +kernel
theorem dX2_pay_19 : decode cX2_pay 19 = .ok (.ireturn, 1) := by decide +kernel
set_option maxRecDepth 20000 in
theorem ggX2_balance_X2_isDriver : GoodIn wsX2_balance wsX2_isDriver := goodIn_r _ [5, 6, 7, 4, 8] (by decide +kernel) (by decide +kernel)
set_option maxRecDepth 20000 in
theorem gX2_balance_X2_isDriver : GoodIn wsX2_balance (va_wsS RX2 65 yX2_isDriver wsX2_isDriver) := goodIn_app (goodIn_of _ (by decide +kernel)) ggX2_balance_X2_isDriver
set_option maxRecDepth 20000 in
theorem ggX2_balance_X2_fails : GoodIn wsX2_balance wsX2_fails := goodIn_r _ [12, 13, 51, 52, 53, 54, 55, 56, 57, 58, 59, 60, 61, 62, 63, 64, 65] (by decide +kernel) (by decide +kernel)
set_option maxRecDepth 20000 in
theorem gX2_balance_X2_fails : GoodIn wsX2_balance (wsV RX2 62 RX2 yX2_fails wsX2_fails) := goodIn_app (goodIn_of _ (by decide +kernel)) ggX2_balance_X2_fails
set_option maxRecDepth 20000 in
theorem ggX2_balance_X2_owes : GoodIn wsX2_balance wsX2_owes := goodIn_r _ [17, 18, 19, 20, 21, 4, 22, 23, 24, 25, 26, 27, 28, 29, 30, 31, 32, 33, 34, 35, 36, 37, 38, 39, 40, 41, 42, 43, 44, 45, 46, 47, 48, 49, 50, 51, 52, 53, 54, 55, 56, 57, 58, 59, 60, 61, 62, 63, 64, 65] (by decide +kernel) (by decide +kernel)
set_option maxRecDepth 20000 in
theorem gX2_balance_X2_owes : GoodIn wsX2_balance (wsV RX2 112 RX2 yX2_owes wsX2_owes) := goodIn_app (goodIn_of _ (by decide +kernel)) ggX2_balance_X2_owes
theorem dX2_balance_0 : decode cX2_balance 0 = .ok (.aload_n 0, 1) := by decide +kernel
theorem dX2_balance_1 : decode cX2_balance 1 = .ok (.iload_n 1, 1) := by decide +kernel
theorem dX2_balance_2 : decode cX2_balance 2 = .ok (.invokestatic 65, 3) := by decide +kernel
theorem dX2_balance_5 : decode cX2_balance 5 = .ok (.ifCond .eq 7, 3) := by decide +kernel
theorem dX2_balance_8 : decode cX2_balance 8 = .ok (.iconst 0, 1) := by decide +kernel
theorem dX2_balance_9 : decode cX2_balance 9 = .ok (.goto 4, 3) := by decide +kernel
theorem dX2_balance_12 : decode cX2_balance 12 = .ok (.iconst 1, 1) := by decide +kernel
theorem dX2_balance_13 : decode cX2_balance 13 = .ok (.invokevirtual 62, 3) := by decide +kernel
theorem dX2_balance_16 : decode cX2_balance 16 = .ok (.ifCond .eq 7, 3) := by decide +kernel
theorem dX2_balance_19 : decode cX2_balance 19 = .ok (.iconst 0, 1) := by decide +kernel
theorem dX2_balance_20 : decode cX2_balance 20 = .ok (.goto 12, 3) := by decide +kernel
theorem dX2_balance_23 : decode cX2_balance 23 = .ok (.aload_n 0, 1) := by decide +kernel
theorem dX2_balance_24 : decode cX2_balance 24 = .ok (.iload_n 1, 1) := by decide +kernel
theorem dX2_balance_25 : decode cX2_balance 25 = .ok (.aload_n 0, 1) := by decide +kernel
theorem dX2_balance_26 : decode cX2_balance 26 = .ok (.getfield 71, 3) := by decide +kernel
theorem dX2_balance_29 : decode cX2_balance 29 = .ok (.invokevirtual 112, 3) := by decide +kernel
theorem dX2_balance_32 : decode cX2_balance 32 = .ok (.ireturn, 1) := by decide +kernel
set_option maxRecDepth 20000 in
theorem ggX2_paid_X2_isDriver : GoodIn wsX2_paid wsX2_isDriver := goodIn_r _ [5, 6, 7, 4, 8] (by decide +kernel) (by decide +kernel)
set_option maxRecDepth 20000 in
theorem gX2_paid_X2_isDriver : GoodIn wsX2_paid (va_wsS RX2 65 yX2_isDriver wsX2_isDriver) := goodIn_app (goodIn_of _ (by decide +kernel)) ggX2_paid_X2_isDriver
set_option maxRecDepth 20000 in
theorem ggX2_paid_X2_fails : GoodIn wsX2_paid wsX2_fails := goodIn_r _ [12, 13, 14, 15, 16, 17, 18, 19, 20, 21, 22, 23, 24, 25, 26, 27, 28] (by decide +kernel) (by decide +kernel)
set_option maxRecDepth 20000 in
theorem gX2_paid_X2_fails : GoodIn wsX2_paid (wsV RX2 62 RX2 yX2_fails wsX2_fails) := goodIn_app (goodIn_of _ (by decide +kernel)) ggX2_paid_X2_fails
theorem dX2_paid_0 : decode cX2_paid 0 = .ok (.aload_n 0, 1) := by decide +kernel
theorem dX2_paid_1 : decode cX2_paid 1 = .ok (.iload_n 1, 1) := by decide +kernel
theorem dX2_paid_2 : decode cX2_paid 2 = .ok (.invokestatic 65, 3) := by decide +kernel
theorem dX2_paid_5 : decode cX2_paid 5 = .ok (.ifCond .eq 7, 3) := by decide +kernel
theorem dX2_paid_8 : decode cX2_paid 8 = .ok (.iconst 0, 1) := by decide +kernel
theorem dX2_paid_9 : decode cX2_paid 9 = .ok (.goto 4, 3) := by decide +kernel
theorem dX2_paid_12 : decode cX2_paid 12 = .ok (.iconst 1, 1) := by decide +kernel
theorem dX2_paid_13 : decode cX2_paid 13 = .ok (.invokevirtual 62, 3) := by decide +kernel
theorem dX2_paid_16 : decode cX2_paid 16 = .ok (.ifCond .eq 7, 3) := by decide +kernel
theorem dX2_paid_19 : decode cX2_paid 19 = .ok (.iconst 0, 1) := by decide +kernel
theorem dX2_paid_20 : decode cX2_paid 20 = .ok (.goto 9, 3) := by decide +kernel
theorem dX2_paid_23 : decode cX2_paid 23 = .ok (.aload_n 0, 1) := by decide +kernel
theorem dX2_paid_24 : decode cX2_paid 24 = .ok (.getfield 45, 3) := by decide +kernel
theorem dX2_paid_27 : decode cX2_paid 27 = .ok (.iload_n 1, 1) := by decide +kernel
theorem dX2_paid_28 : decode cX2_paid 28 = .ok (.iaload, 1) := by decide +kernel
theorem dX2_paid_29 : decode cX2_paid 29 = .ok (.ireturn, 1) := by decide +kernel
theorem dX2_spends_0 : decode cX2_spends 0 = .ok (.iconst 0, 1) := by decide +kernel
theorem dX2_spends_1 : decode cX2_spends 1 = .ok (.istore_n 3, 1) := by decide +kernel
theorem dX2_spends_2 : decode cX2_spends 2 = .ok (.iconst 0, 1) := by decide +kernel
theorem dX2_spends_3 : decode cX2_spends 3 = .ok (.istore 4, 2) := by decide +kernel
theorem dX2_spends_5 : decode cX2_spends 5 = .ok (.iload 4, 2) := by decide +kernel
theorem dX2_spends_7 : decode cX2_spends 7 = .ok (.aload_n 0, 1) := by decide +kernel
theorem dX2_spends_8 : decode cX2_spends 8 = .ok (.getfield 51, 3) := by decide +kernel
theorem dX2_spends_11 : decode cX2_spends 11 = .ok (.if_icmp .ge 58, 3) := by decide +kernel
theorem dX2_spends_14 : decode cX2_spends 14 = .ok (.bipush 10, 2) := by decide +kernel
theorem dX2_spends_16 : decode cX2_spends 16 = .ok (.iload 4, 2) := by decide +kernel
theorem dX2_spends_18 : decode cX2_spends 18 = .ok (.imul, 1) := by decide +kernel
theorem dX2_spends_19 : decode cX2_spends 19 = .ok (.iload_n 1, 1) := by decide +kernel
theorem dX2_spends_20 : decode cX2_spends 20 = .ok (.iadd, 1) := by decide +kernel
theorem dX2_spends_21 : decode cX2_spends 21 = .ok (.istore 5, 2) := by decide +kernel
theorem dX2_spends_23 : decode cX2_spends 23 = .ok (.iload_n 3, 1) := by decide +kernel
theorem dX2_spends_24 : decode cX2_spends 24 = .ok (.aload_n 0, 1) := by decide +kernel
theorem dX2_spends_25 : decode cX2_spends 25 = .ok (.getfield 26, 3) := by decide +kernel
theorem dX2_spends_28 : decode cX2_spends 28 = .ok (.iload 4, 2) := by decide +kernel
theorem dX2_spends_30 : decode cX2_spends 30 = .ok (.baload, 1) := by decide +kernel
theorem dX2_spends_31 : decode cX2_spends 31 = .ok (.ifCond .eq 29, 3) := by decide +kernel
theorem dX2_spends_34 : decode cX2_spends 34 = .ok (.aload_n 0, 1) := by decide +kernel
theorem dX2_spends_35 : decode cX2_spends 35 = .ok (.getfield 36, 3) := by decide +kernel
theorem dX2_spends_38 : decode cX2_spends 38 = .ok (.iload 5, 2) := by decide +kernel
theorem dX2_spends_40 : decode cX2_spends 40 = .ok (.iaload, 1) := by decide +kernel
theorem dX2_spends_41 : decode cX2_spends 41 = .ok (.iload_n 2, 1) := by decide +kernel
theorem dX2_spends_42 : decode cX2_spends 42 = .ok (.ifCond .eq 13, 3) := by decide +kernel
theorem dX2_spends_45 : decode cX2_spends 45 = .ok (.aload_n 0, 1) := by decide +kernel
theorem dX2_spends_46 : decode cX2_spends 46 = .ok (.getfield 42, 3) := by decide +kernel
theorem dX2_spends_49 : decode cX2_spends 49 = .ok (.iload 5, 2) := by decide +kernel
theorem dX2_spends_51 : decode cX2_spends 51 = .ok (.iaload, 1) := by decide +kernel
theorem dX2_spends_52 : decode cX2_spends 52 = .ok (.goto 4, 3) := by decide +kernel
theorem dX2_spends_55 : decode cX2_spends 55 = .ok (.iconst 0, 1) := by decide +kernel
theorem dX2_spends_56 : decode cX2_spends 56 = .ok (.isub, 1) := by decide +kernel
theorem dX2_spends_57 : decode cX2_spends 57 = .ok (.goto 4, 3) := by decide +kernel
theorem dX2_spends_60 : decode cX2_spends 60 = .ok (.iconst 0, 1) := by decide +kernel
theorem dX2_spends_61 : decode cX2_spends 61 = .ok (.iadd, 1) := by decide +kernel
theorem dX2_spends_62 : decode cX2_spends 62 = .ok (.istore_n 3, 1) := by decide +kernel
theorem dX2_spends_63 : decode cX2_spends 63 = .ok (.iinc 4 1, 3) := by decide +kernel
theorem dX2_spends_66 : decode cX2_spends 66 = .ok (.goto (-61), 3) := by decide +kernel
theorem dX2_spends_69 : decode cX2_spends 69 = .ok (.iload_n 3, 1) := by decide +kernel
theorem dX2_spends_70 : decode cX2_spends 70 = .ok (.ireturn, 1) := by decide +kernel
set_option maxRecDepth 20000 in
theorem ggX2_spent_X2_isIn : GoodIn wsX2_spent wsX2_isIn := goodIn_r _ [4] (by decide +kernel) (by decide +kernel)
set_option maxRecDepth 20000 in
theorem gX2_spent_X2_isIn : GoodIn wsX2_spent (va_wsS RX2 54 yX2_isIn wsX2_isIn) := goodIn_app (goodIn_of _ (by decide +kernel)) ggX2_spent_X2_isIn
set_option maxRecDepth 20000 in
theorem ggX2_spent_X2_fails : GoodIn wsX2_spent wsX2_fails := goodIn_r _ [8, 9, 18, 19, 20, 21, 22, 23, 24, 25, 26, 27, 28, 29, 30, 31, 32] (by decide +kernel) (by decide +kernel)
set_option maxRecDepth 20000 in
theorem gX2_spent_X2_fails : GoodIn wsX2_spent (wsV RX2 62 RX2 yX2_fails wsX2_fails) := goodIn_app (goodIn_of _ (by decide +kernel)) ggX2_spent_X2_fails
set_option maxRecDepth 20000 in
theorem ggX2_spent_X2_spends : GoodIn wsX2_spent wsX2_spends := goodIn_r _ [13, 14, 15, 16, 17, 18, 19, 20, 21, 22, 23, 24, 25, 26, 27, 28, 29, 30, 31, 32] (by decide +kernel) (by decide +kernel)
set_option maxRecDepth 20000 in
theorem gX2_spent_X2_spends : GoodIn wsX2_spent (wsV RX2 118 RX2 yX2_spends wsX2_spends) := goodIn_app (goodIn_of _ (by decide +kernel)) ggX2_spent_X2_spends
theorem dX2_spent_0 : decode cX2_spent 0 = .ok (.aload_n 0, 1) := by decide +kernel
theorem dX2_spent_1 : decode cX2_spent 1 = .ok (.iload_n 1, 1) := by decide +kernel
theorem dX2_spent_2 : decode cX2_spent 2 = .ok (.iconst 0, 1) := by decide +kernel
theorem dX2_spent_3 : decode cX2_spent 3 = .ok (.bipush 9, 2) := by decide +kernel
theorem dX2_spent_5 : decode cX2_spent 5 = .ok (.invokestatic 54, 3) := by decide +kernel
theorem dX2_spent_8 : decode cX2_spent 8 = .ok (.ifCond .eq 7, 3) := by decide +kernel
theorem dX2_spent_11 : decode cX2_spent 11 = .ok (.iconst 0, 1) := by decide +kernel
theorem dX2_spent_12 : decode cX2_spent 12 = .ok (.goto 4, 3) := by decide +kernel
theorem dX2_spent_15 : decode cX2_spent 15 = .ok (.iconst 1, 1) := by decide +kernel
theorem dX2_spent_16 : decode cX2_spent 16 = .ok (.invokevirtual 62, 3) := by decide +kernel
theorem dX2_spent_19 : decode cX2_spent 19 = .ok (.ifCond .eq 7, 3) := by decide +kernel
theorem dX2_spent_22 : decode cX2_spent 22 = .ok (.iconst 0, 1) := by decide +kernel
theorem dX2_spent_23 : decode cX2_spent 23 = .ok (.goto 9, 3) := by decide +kernel
theorem dX2_spent_26 : decode cX2_spent 26 = .ok (.aload_n 0, 1) := by decide +kernel
theorem dX2_spent_27 : decode cX2_spent 27 = .ok (.iload_n 1, 1) := by decide +kernel
theorem dX2_spent_28 : decode cX2_spent 28 = .ok (.iconst 1, 1) := by decide +kernel
theorem dX2_spent_29 : decode cX2_spent 29 = .ok (.invokevirtual 118, 3) := by decide +kernel
theorem dX2_spent_32 : decode cX2_spent 32 = .ok (.ireturn, 1) := by decide +kernel
set_option maxRecDepth 20000 in
theorem ggX2_house_X2_spends : GoodIn wsX2_house wsX2_spends := goodIn_r _ [7, 8, 9, 10, 11, 49, 50, 51, 52, 53, 54, 55, 56, 57, 58, 59, 60, 61, 62, 63] (by decide +kernel) (by decide +kernel)
set_option maxRecDepth 20000 in
theorem gX2_house_X2_spends : GoodIn wsX2_house (wsV RX2 118 RX2 yX2_spends wsX2_spends) := goodIn_app (goodIn_of _ (by decide +kernel)) ggX2_house_X2_spends
set_option maxRecDepth 20000 in
theorem ggX2_house_X2_owes : GoodIn wsX2_house wsX2_owes := goodIn_r _ [15, 2, 16, 17, 18, 6, 19, 20, 21, 22, 23, 8, 10, 24, 11, 25, 26, 27, 28, 9, 29, 30, 31, 32, 33, 34, 35, 36, 37, 38, 39, 40, 41, 42, 43, 49, 50, 51, 52, 53, 54, 55, 56, 57, 58, 59, 60, 61, 62, 63] (by decide +kernel) (by decide +kernel)
set_option maxRecDepth 20000 in
theorem gX2_house_X2_owes : GoodIn wsX2_house (wsV RX2 112 RX2 yX2_owes wsX2_owes) := goodIn_app (goodIn_of _ (by decide +kernel)) ggX2_house_X2_owes
set_option maxRecDepth 20000 in
theorem ggX2_house_X2_tells : GoodIn wsX2_house wsX2_tells := goodIn_r _ [47, 48, 49, 50, 51, 52, 53, 54, 55, 56, 57, 58, 59, 60, 61, 62, 63] (by decide +kernel) (by decide +kernel)
set_option maxRecDepth 20000 in
theorem gX2_house_X2_tells : GoodIn wsX2_house (wsV RX2 94 RX2 yX2_tells wsX2_tells) := goodIn_app (goodIn_of _ (by decide +kernel)) ggX2_house_X2_tells
theorem dX2_house_0 : decode cX2_house 0 = .ok (.iconst 0, 1) := by decide +kernel
theorem dX2_house_1 : decode cX2_house 1 = .ok (.istore_n 1, 1) := by decide +kernel
theorem dX2_house_2 : decode cX2_house 2 = .ok (.iconst 0, 1) := by decide +kernel
theorem dX2_house_3 : decode cX2_house 3 = .ok (.istore_n 2, 1) := by decide +kernel
theorem dX2_house_4 : decode cX2_house 4 = .ok (.iload_n 2, 1) := by decide +kernel
theorem dX2_house_5 : decode cX2_house 5 = .ok (.bipush 10, 2) := by decide +kernel
theorem dX2_house_7 : decode cX2_house 7 = .ok (.if_icmp .ge 18, 3) := by decide +kernel
theorem dX2_house_10 : decode cX2_house 10 = .ok (.iload_n 1, 1) := by decide +kernel
theorem dX2_house_11 : decode cX2_house 11 = .ok (.aload_n 0, 1) := by decide +kernel
theorem dX2_house_12 : decode cX2_house 12 = .ok (.iload_n 2, 1) := by decide +kernel
theorem dX2_house_13 : decode cX2_house 13 = .ok (.iconst 1, 1) := by decide +kernel
theorem dX2_house_14 : decode cX2_house 14 = .ok (.invokevirtual 118, 3) := by decide +kernel
theorem dX2_house_17 : decode cX2_house 17 = .ok (.iadd, 1) := by decide +kernel
theorem dX2_house_18 : decode cX2_house 18 = .ok (.istore_n 1, 1) := by decide +kernel
theorem dX2_house_19 : decode cX2_house 19 = .ok (.iinc 2 1, 3) := by decide +kernel
theorem dX2_house_22 : decode cX2_house 22 = .ok (.goto (-18), 3) := by decide +kernel
theorem dX2_house_25 : decode cX2_house 25 = .ok (.iconst 0, 1) := by decide +kernel
theorem dX2_house_26 : decode cX2_house 26 = .ok (.istore_n 2, 1) := by decide +kernel
theorem dX2_house_27 : decode cX2_house 27 = .ok (.iload_n 2, 1) := by decide +kernel
theorem dX2_house_28 : decode cX2_house 28 = .ok (.iconst 5, 1) := by decide +kernel
theorem dX2_house_29 : decode cX2_house 29 = .ok (.if_icmp .ge 30, 3) := by decide +kernel
theorem dX2_house_32 : decode cX2_house 32 = .ok (.iload_n 1, 1) := by decide +kernel
theorem dX2_house_33 : decode cX2_house 33 = .ok (.aload_n 0, 1) := by decide +kernel
theorem dX2_house_34 : decode cX2_house 34 = .ok (.iload_n 2, 1) := by decide +kernel
theorem dX2_house_35 : decode cX2_house 35 = .ok (.aload_n 0, 1) := by decide +kernel
theorem dX2_house_36 : decode cX2_house 36 = .ok (.getfield 71, 3) := by decide +kernel
theorem dX2_house_39 : decode cX2_house 39 = .ok (.iconst 1, 1) := by decide +kernel
theorem dX2_house_40 : decode cX2_house 40 = .ok (.iadd, 1) := by decide +kernel
theorem dX2_house_41 : decode cX2_house 41 = .ok (.invokevirtual 112, 3) := by decide +kernel
theorem dX2_house_44 : decode cX2_house 44 = .ok (.aload_n 0, 1) := by decide +kernel
theorem dX2_house_45 : decode cX2_house 45 = .ok (.getfield 45, 3) := by decide +kernel
theorem dX2_house_48 : decode cX2_house 48 = .ok (.iload_n 2, 1) := by decide +kernel
theorem dX2_house_49 : decode cX2_house 49 = .ok (.iaload, 1) := by decide +kernel
theorem dX2_house_50 : decode cX2_house 50 = .ok (.iadd, 1) := by decide +kernel
theorem dX2_house_51 : decode cX2_house 51 = .ok (.isub, 1) := by decide +kernel
theorem dX2_house_52 : decode cX2_house 52 = .ok (.istore_n 1, 1) := by decide +kernel
theorem dX2_house_53 : decode cX2_house 53 = .ok (.iinc 2 1, 3) := by decide +kernel
theorem dX2_house_56 : decode cX2_house 56 = .ok (.goto (-29), 3) := by decide +kernel
theorem dX2_house_59 : decode cX2_house 59 = .ok (.aload_n 0, 1) := by decide +kernel
theorem dX2_house_60 : decode cX2_house 60 = .ok (.iload_n 1, 1) := by decide +kernel
theorem dX2_house_61 : decode cX2_house 61 = .ok (.invokevirtual 94, 3) := by decide +kernel
theorem dX2_house_64 : decode cX2_house 64 = .ok (.ireturn, 1) := by decide +kernel
set_option maxRecDepth 20000 in
theorem ggX2_averageCharge_X2_isIn : GoodIn wsX2_averageCharge wsX2_isIn := goodIn_r _ [7] (by decide +kernel) (by decide +kernel)
set_option maxRecDepth 20000 in
theorem gX2_averageCharge_X2_isIn : GoodIn wsX2_averageCharge (va_wsS RX2 54 yX2_isIn wsX2_isIn) := goodIn_app (goodIn_of _ (by decide +kernel)) ggX2_averageCharge_X2_isIn
set_option maxRecDepth 20000 in
theorem ggX2_averageCharge_X2_fails : GoodIn wsX2_averageCharge wsX2_fails := goodIn_r _ [11, 12, 18, 19, 20, 21, 22, 23, 24, 25, 26, 27, 28, 29, 30, 31, 32] (by decide +kernel) (by decide +kernel)
set_option maxRecDepth 20000 in
theorem gX2_averageCharge_X2_fails : GoodIn wsX2_averageCharge (wsV RX2 62 RX2 yX2_fails wsX2_fails) := goodIn_app (goodIn_of _ (by decide +kernel)) ggX2_averageCharge_X2_fails
set_option maxRecDepth 20000 in
theorem ggX2_averageCharge_X2_spends : GoodIn wsX2_averageCharge wsX2_spends := goodIn_r _ [16, 1, 2, 3, 17, 18, 19, 20, 21, 22, 23, 24, 25, 26, 27, 28, 29, 30, 31, 32] (by decide +kernel) (by decide +kernel)
set_option maxRecDepth 20000 in
theorem gX2_averageCharge_X2_spends : GoodIn wsX2_averageCharge (wsV RX2 118 RX2 yX2_spends wsX2_spends) := goodIn_app (goodIn_of _ (by decide +kernel)) ggX2_averageCharge_X2_spends
theorem dX2_averageCharge_0 : decode cX2_averageCharge 0 = .ok (.aload_n 0, 1) := by decide +kernel
theorem dX2_averageCharge_1 : decode cX2_averageCharge 1 = .ok (.iload_n 1, 1) := by decide +kernel
theorem dX2_averageCharge_2 : decode cX2_averageCharge 2 = .ok (.iconst 0, 1) := by decide +kernel
theorem dX2_averageCharge_3 : decode cX2_averageCharge 3 = .ok (.bipush 9, 2) := by decide +kernel
theorem dX2_averageCharge_5 : decode cX2_averageCharge 5 = .ok (.invokestatic 54, 3) := by decide +kernel
theorem dX2_averageCharge_8 : decode cX2_averageCharge 8 = .ok (.ifCond .eq 7, 3) := by decide +kernel
theorem dX2_averageCharge_11 : decode cX2_averageCharge 11 = .ok (.iconst 0, 1) := by decide +kernel
theorem dX2_averageCharge_12 : decode cX2_averageCharge 12 = .ok (.goto 4, 3) := by decide +kernel
theorem dX2_averageCharge_15 : decode cX2_averageCharge 15 = .ok (.iconst 1, 1) := by decide +kernel
theorem dX2_averageCharge_16 : decode cX2_averageCharge 16 = .ok (.invokevirtual 62, 3) := by decide +kernel
theorem dX2_averageCharge_19 : decode cX2_averageCharge 19 = .ok (.ifCond .eq 5, 3) := by decide +kernel
theorem dX2_averageCharge_22 : decode cX2_averageCharge 22 = .ok (.fconst 0, 1) := by decide +kernel
theorem dX2_averageCharge_23 : decode cX2_averageCharge 23 = .ok (.freturn, 1) := by decide +kernel
theorem dX2_averageCharge_24 : decode cX2_averageCharge 24 = .ok (.iconst 0, 1) := by decide +kernel
theorem dX2_averageCharge_25 : decode cX2_averageCharge 25 = .ok (.istore_n 2, 1) := by decide +kernel
theorem dX2_averageCharge_26 : decode cX2_averageCharge 26 = .ok (.iconst 0, 1) := by decide +kernel
theorem dX2_averageCharge_27 : decode cX2_averageCharge 27 = .ok (.istore_n 3, 1) := by decide +kernel
theorem dX2_averageCharge_28 : decode cX2_averageCharge 28 = .ok (.iload_n 3, 1) := by decide +kernel
theorem dX2_averageCharge_29 : decode cX2_averageCharge 29 = .ok (.aload_n 0, 1) := by decide +kernel
theorem dX2_averageCharge_30 : decode cX2_averageCharge 30 = .ok (.getfield 51, 3) := by decide +kernel
theorem dX2_averageCharge_33 : decode cX2_averageCharge 33 = .ok (.if_icmp .ge 40, 3) := by decide +kernel
theorem dX2_averageCharge_36 : decode cX2_averageCharge 36 = .ok (.iload_n 2, 1) := by decide +kernel
theorem dX2_averageCharge_37 : decode cX2_averageCharge 37 = .ok (.aload_n 0, 1) := by decide +kernel
theorem dX2_averageCharge_38 : decode cX2_averageCharge 38 = .ok (.getfield 26, 3) := by decide +kernel
theorem dX2_averageCharge_41 : decode cX2_averageCharge 41 = .ok (.iload_n 3, 1) := by decide +kernel
theorem dX2_averageCharge_42 : decode cX2_averageCharge 42 = .ok (.baload, 1) := by decide +kernel
theorem dX2_averageCharge_43 : decode cX2_averageCharge 43 = .ok (.ifCond .eq 21, 3) := by decide +kernel
theorem dX2_averageCharge_46 : decode cX2_averageCharge 46 = .ok (.aload_n 0, 1) := by decide +kernel
