theorem dX1_existingRide_12 : decode cX1_existingRide 12 = .ok (.if_icmp .lt 13, 3) := by decide +kernel
theorem dX1_existingRide_15 : decode cX1_existingRide 15 = .ok (.new 224, 3) := by decide +kernel
theorem dX1_existingRide_18 : decode cX1_existingRide 18 = .ok (.dup, 1) := by decide +kernel
theorem dX1_existingRide_19 : decode cX1_existingRide 19 = .ok (.ldc 226, 2) := by decide +kernel
theorem dX1_existingRide_21 : decode cX1_existingRide 21 = .ok (.invokespecial 228, 3) := by decide +kernel
theorem dX1_existingRide_24 : decode cX1_existingRide 24 = .ok (.athrow, 1) := by decide +kernel
theorem dX1_existingRide_25 : decode cX1_existingRide 25 = .ok (.aload_n 0, 1) := by decide +kernel
theorem dX1_existingRide_26 : decode cX1_existingRide 26 = .ok (.getfield 10, 3) := by decide +kernel
theorem dX1_existingRide_29 : decode cX1_existingRide 29 = .ok (.iload_n 1, 1) := by decide +kernel
theorem dX1_existingRide_30 : decode cX1_existingRide 30 = .ok (.invokevirtual 159, 3) := by decide +kernel
theorem dX1_existingRide_33 : decode cX1_existingRide 33 = .ok (.checkcast 55, 3) := by decide +kernel
theorem dX1_existingRide_36 : decode cX1_existingRide 36 = .ok (.areturn, 1) := by decide +kernel
set_option maxRecDepth 20000 in
theorem ggX1_rideUnderWay_X1_existingRide : GoodIn wsX1_rideUnderWay wsX1_existingRide := goodIn_ca (goodIn_r _ [5, 6, 7, 8, 9, 10, 11, 12, 13, 14, 15, 16, 17, 18, 19, 20, 21, 22, 23, 24, 25, 26, 27, 28, 29, 30, 31, 32, 47, 48, 49, 50, 51, 52, 53, 54] (by decide +kernel) (by decide +kernel)) (goodIn_sub (fun _ h => List.mem_cons_of_mem _ (List.mem_append_left _ (List.mem_append_right _ h))) (by decide +kernel))
set_option maxRecDepth 20000 in
theorem gX1_rideUnderWay_X1_existingRide : GoodIn wsX1_rideUnderWay (wsV RX1 105 RX1 yX1_existingRide wsX1_existingRide) := goodIn_app (goodIn_of _ (by decide +kernel)) ggX1_rideUnderWay_X1_existingRide
set_option maxRecDepth 20000 in
theorem ggX1_rideUnderWay_X1_checkRider : GoodIn wsX1_rideUnderWay wsX1_checkRider := goodIn_ca (goodIn_r _ [35, 6, 7] (by decide +kernel) (by decide +kernel)) (goodIn_sub (fun _ h => List.mem_cons_of_mem _ (List.mem_append_left _ (List.mem_append_right _ h))) (by decide +kernel))
set_option maxRecDepth 20000 in
theorem gX1_rideUnderWay_X1_checkRider : GoodIn wsX1_rideUnderWay (va_wsS RX1 126 yX1_checkRider wsX1_checkRider) := goodIn_app (goodIn_of _ (by decide +kernel)) ggX1_rideUnderWay_X1_checkRider
set_option maxRecDepth 20000 in
theorem ggX1_rideUnderWay_X1_checkUnderWay : GoodIn wsX1_rideUnderWay wsX1_checkUnderWay := goodIn_ca (goodIn_r _ [38, 39, 40, 41, 42, 43, 44, 45, 46, 55, 56, 57, 58, 59, 60, 61, 62, 63, 64, 65] (by decide +kernel) (by decide +kernel)) (goodIn_sub (fun _ h => List.mem_cons_of_mem _ (List.mem_append_right _ h)) (by decide +kernel))
set_option maxRecDepth 20000 in
theorem gX1_rideUnderWay_X1_checkUnderWay : GoodIn wsX1_rideUnderWay (va_wsS RX1 109 yX1_checkUnderWay wsX1_checkUnderWay) := goodIn_app (goodIn_of _ (by decide +kernel)) ggX1_rideUnderWay_X1_checkUnderWay
theorem dX1_rideUnderWay_0 : decode cX1_rideUnderWay 0 = .ok (.aload_n 0, 1) := by decide +kernel
theorem dX1_rideUnderWay_1 : decode cX1_rideUnderWay 1 = .ok (.iload_n 1, 1) := by decide +kernel
theorem dX1_rideUnderWay_2 : decode cX1_rideUnderWay 2 = .ok (.invokevirtual 105, 3) := by decide +kernel
theorem dX1_rideUnderWay_5 : decode cX1_rideUnderWay 5 = .ok (.astore_n 3, 1) := by decide +kernel
theorem dX1_rideUnderWay_6 : decode cX1_rideUnderWay 6 = .ok (.iload_n 2, 1) := by decide +kernel
theorem dX1_rideUnderWay_7 : decode cX1_rideUnderWay 7 = .ok (.invokestatic 126, 3) := by decide +kernel
theorem dX1_rideUnderWay_10 : decode cX1_rideUnderWay 10 = .ok (.aload_n 3, 1) := by decide +kernel
theorem dX1_rideUnderWay_11 : decode cX1_rideUnderWay 11 = .ok (.invokestatic 109, 3) := by decide +kernel
theorem dX1_rideUnderWay_14 : decode cX1_rideUnderWay 14 = .ok (.aload_n 3, 1) := by decide +kernel
theorem dX1_rideUnderWay_15 : decode cX1_rideUnderWay 15 = .ok (.areturn, 1) := by decide +kernel
set_option maxRecDepth 20000 in
theorem ggX1_checkUnderWay_X0_isFinished : GoodIn wsX1_checkUnderWay wsX0_isFinished := goodIn_r _ [7, 8, 9, 10, 11, 12, 13, 14, 15, 16, 17, 18, 19] (by decide +kernel) (by decide +kernel)
set_option maxRecDepth 20000 in
theorem gX1_checkUnderWay_X0_isFinished : GoodIn wsX1_checkUnderWay (wsV RX1 133 RX0 yX0_isFinished wsX0_isFinished) := goodIn_app (goodIn_of _ (by decide +kernel)) ggX1_checkUnderWay_X0_isFinished
theorem dX1_checkUnderWay_0 : decode cX1_checkUnderWay 0 = .ok (.aload_n 0, 1) := by decide +kernel
theorem dX1_checkUnderWay_1 : decode cX1_checkUnderWay 1 = .ok (.invokevirtual 133, 3) := by decide +kernel
theorem dX1_checkUnderWay_4 : decode cX1_checkUnderWay 4 = .ok (.ifCond .eq 13, 3) := by decide +kernel
theorem dX1_checkUnderWay_7 : decode cX1_checkUnderWay 7 = .ok (.new 42, 3) := by decide +kernel
theorem dX1_checkUnderWay_10 : decode cX1_checkUnderWay 10 = .ok (.dup, 1) := by decide +kernel
theorem dX1_checkUnderWay_11 : decode cX1_checkUnderWay 11 = .ok (.ldc 229, 2) := by decide +kernel
theorem dX1_checkUnderWay_13 : decode cX1_checkUnderWay 13 = .ok (.invokespecial 46, 3) := by decide +kernel
theorem dX1_checkUnderWay_16 : decode cX1_checkUnderWay 16 = .ok (.athrow, 1) := by decide +kernel
theorem dX1_checkUnderWay_17 : decode cX1_checkUnderWay 17 = .ok (.return_, 1) := by decide +kernel
theorem dX1_checkRider_0 : decode cX1_checkRider 0 = .ok (.iload_n 0, 1) := by decide +kernel
theorem dX1_checkRider_1 : decode cX1_checkRider 1 = .ok (.ifCond .lt 9, 3) := by decide +kernel
theorem dX1_checkRider_4 : decode cX1_checkRider 4 = .ok (.iload_n 0, 1) := by decide +kernel
theorem dX1_checkRider_5 : decode cX1_checkRider 5 = .ok (.bipush 10, 2) := by decide +kernel
theorem dX1_checkRider_7 : decode cX1_checkRider 7 = .ok (.if_icmp .lt 13, 3) := by decide +kernel
theorem dX1_checkRider_10 : decode cX1_checkRider 10 = .ok (.new 224, 3) := by decide +kernel
theorem dX1_checkRider_13 : decode cX1_checkRider 13 = .ok (.dup, 1) := by decide +kernel
theorem dX1_checkRider_14 : decode cX1_checkRider 14 = .ok (.ldc 231, 2) := by decide +kernel
theorem dX1_checkRider_16 : decode cX1_checkRider 16 = .ok (.invokespecial 228, 3) := by decide +kernel
theorem dX1_checkRider_19 : decode cX1_checkRider 19 = .ok (.athrow, 1) := by decide +kernel
theorem dX1_checkRider_20 : decode cX1_checkRider 20 = .ok (.return_, 1) := by decide +kernel
theorem dX1_checkDriver_0 : decode cX1_checkDriver 0 = .ok (.iload_n 0, 1) := by decide +kernel
theorem dX1_checkDriver_1 : decode cX1_checkDriver 1 = .ok (.ifCond .lt 8, 3) := by decide +kernel
theorem dX1_checkDriver_4 : decode cX1_checkDriver 4 = .ok (.iload_n 0, 1) := by decide +kernel
theorem dX1_checkDriver_5 : decode cX1_checkDriver 5 = .ok (.iconst 5, 1) := by decide +kernel
theorem dX1_checkDriver_6 : decode cX1_checkDriver 6 = .ok (.if_icmp .lt 13, 3) := by decide +kernel
theorem dX1_checkDriver_9 : decode cX1_checkDriver 9 = .ok (.new 224, 3) := by decide +kernel
theorem dX1_checkDriver_12 : decode cX1_checkDriver 12 = .ok (.dup, 1) := by decide +kernel
theorem dX1_checkDriver_13 : decode cX1_checkDriver 13 = .ok (.ldc 233, 2) := by decide +kernel
theorem dX1_checkDriver_15 : decode cX1_checkDriver 15 = .ok (.invokespecial 228, 3) := by decide +kernel
theorem dX1_checkDriver_18 : decode cX1_checkDriver 18 = .ok (.athrow, 1) := by decide +kernel
theorem dX1_checkDriver_19 : decode cX1_checkDriver 19 = .ok (.return_, 1) := by decide +kernel
theorem dX1_checkRange_0 : decode cX1_checkRange 0 = .ok (.iload_n 0, 1) := by decide +kernel
theorem dX1_checkRange_1 : decode cX1_checkRange 1 = .ok (.iload_n 1, 1) := by decide +kernel
theorem dX1_checkRange_2 : decode cX1_checkRange 2 = .ok (.if_icmp .lt 8, 3) := by decide +kernel
theorem dX1_checkRange_5 : decode cX1_checkRange 5 = .ok (.iload_n 0, 1) := by decide +kernel
theorem dX1_checkRange_6 : decode cX1_checkRange 6 = .ok (.iload_n 2, 1) := by decide +kernel
theorem dX1_checkRange_7 : decode cX1_checkRange 7 = .ok (.if_icmp .le 13, 3) := by decide +kernel
theorem dX1_checkRange_10 : decode cX1_checkRange 10 = .ok (.new 235, 3) := by decide +kernel
theorem dX1_checkRange_13 : decode cX1_checkRange 13 = .ok (.dup, 1) := by decide +kernel
theorem dX1_checkRange_14 : decode cX1_checkRange 14 = .ok (.ldc 237, 2) := by decide +kernel
theorem dX1_checkRange_16 : decode cX1_checkRange 16 = .ok (.invokespecial 239, 3) := by decide +kernel
theorem dX1_checkRange_19 : decode cX1_checkRange 19 = .ok (.athrow, 1) := by decide +kernel
theorem dX1_checkRange_20 : decode cX1_checkRange 20 = .ok (.return_, 1) := by decide +kernel
theorem dJ6_bitCount_0f7a4_0 : decode cJ6_bitCount_0f7a4 0 = .ok (.iload_n 0, 1) := by decide +kernel
theorem dJ6_bitCount_0f7a4_1 : decode cJ6_bitCount_0f7a4 1 = .ok (.iload_n 0, 1) := by decide +kernel
theorem dJ6_bitCount_0f7a4_2 : decode cJ6_bitCount_0f7a4 2 = .ok (.iconst 1, 1) := by decide +kernel
theorem dJ6_bitCount_0f7a4_3 : decode cJ6_bitCount_0f7a4 3 = .ok (.iushr, 1) := by decide +kernel
theorem dJ6_bitCount_0f7a4_4 : decode cJ6_bitCount_0f7a4 4 = .ok (.ldc_w 265, 3) := by decide +kernel
theorem dJ6_bitCount_0f7a4_7 : decode cJ6_bitCount_0f7a4 7 = .ok (.iand, 1) := by decide +kernel
theorem dJ6_bitCount_0f7a4_8 : decode cJ6_bitCount_0f7a4 8 = .ok (.isub, 1) := by decide +kernel
theorem dJ6_bitCount_0f7a4_9 : decode cJ6_bitCount_0f7a4 9 = .ok (.istore_n 0, 1) := by decide +kernel
theorem dJ6_bitCount_0f7a4_10 : decode cJ6_bitCount_0f7a4 10 = .ok (.iload_n 0, 1) := by decide +kernel
theorem dJ6_bitCount_0f7a4_11 : decode cJ6_bitCount_0f7a4 11 = .ok (.ldc_w 266, 3) := by decide +kernel
theorem dJ6_bitCount_0f7a4_14 : decode cJ6_bitCount_0f7a4 14 = .ok (.iand, 1) := by decide +kernel
theorem dJ6_bitCount_0f7a4_15 : decode cJ6_bitCount_0f7a4 15 = .ok (.iload_n 0, 1) := by decide +kernel
theorem dJ6_bitCount_0f7a4_16 : decode cJ6_bitCount_0f7a4 16 = .ok (.iconst 2, 1) := by decide +kernel
theorem dJ6_bitCount_0f7a4_17 : decode cJ6_bitCount_0f7a4 17 = .ok (.iushr, 1) := by decide +kernel
theorem dJ6_bitCount_0f7a4_18 : decode cJ6_bitCount_0f7a4 18 = .ok (.ldc_w 266, 3) := by decide +kernel
theorem dJ6_bitCount_0f7a4_21 : decode cJ6_bitCount_0f7a4 21 = .ok (.iand, 1) := by decide +kernel
theorem dJ6_bitCount_0f7a4_22 : decode cJ6_bitCount_0f7a4 22 = .ok (.iadd, 1) := by decide +kernel
theorem dJ6_bitCount_0f7a4_23 : decode cJ6_bitCount_0f7a4 23 = .ok (.istore_n 0, 1) := by decide +kernel
theorem dJ6_bitCount_0f7a4_24 : decode cJ6_bitCount_0f7a4 24 = .ok (.iload_n 0, 1) := by decide +kernel
theorem dJ6_bitCount_0f7a4_25 : decode cJ6_bitCount_0f7a4 25 = .ok (.iload_n 0, 1) := by decide +kernel
theorem dJ6_bitCount_0f7a4_26 : decode cJ6_bitCount_0f7a4 26 = .ok (.iconst 4, 1) := by decide +kernel
theorem dJ6_bitCount_0f7a4_27 : decode cJ6_bitCount_0f7a4 27 = .ok (.iushr, 1) := by decide +kernel
theorem dJ6_bitCount_0f7a4_28 : decode cJ6_bitCount_0f7a4 28 = .ok (.iadd, 1) := by decide +kernel
theorem dJ6_bitCount_0f7a4_29 : decode cJ6_bitCount_0f7a4 29 = .ok (.ldc_w 267, 3) := by decide +kernel
theorem dJ6_bitCount_0f7a4_32 : decode cJ6_bitCount_0f7a4 32 = .ok (.iand, 1) := by decide +kernel
theorem dJ6_bitCount_0f7a4_33 : decode cJ6_bitCount_0f7a4 33 = .ok (.istore_n 0, 1) := by decide +kernel
theorem dJ6_bitCount_0f7a4_34 : decode cJ6_bitCount_0f7a4 34 = .ok (.iload_n 0, 1) := by decide +kernel
theorem dJ6_bitCount_0f7a4_35 : decode cJ6_bitCount_0f7a4 35 = .ok (.iload_n 0, 1) := by decide +kernel
theorem dJ6_bitCount_0f7a4_36 : decode cJ6_bitCount_0f7a4 36 = .ok (.bipush 8, 2) := by decide +kernel
theorem dJ6_bitCount_0f7a4_38 : decode cJ6_bitCount_0f7a4 38 = .ok (.iushr, 1) := by decide +kernel
theorem dJ6_bitCount_0f7a4_39 : decode cJ6_bitCount_0f7a4 39 = .ok (.iadd, 1) := by decide +kernel
theorem dJ6_bitCount_0f7a4_40 : decode cJ6_bitCount_0f7a4 40 = .ok (.istore_n 0, 1) := by decide +kernel
theorem dJ6_bitCount_0f7a4_41 : decode cJ6_bitCount_0f7a4 41 = .ok (.iload_n 0, 1) := by decide +kernel
theorem dJ6_bitCount_0f7a4_42 : decode cJ6_bitCount_0f7a4 42 = .ok (.iload_n 0, 1) := by decide +kernel
theorem dJ6_bitCount_0f7a4_43 : decode cJ6_bitCount_0f7a4 43 = .ok (.bipush 16, 2) := by decide +kernel
theorem dJ6_bitCount_0f7a4_45 : decode cJ6_bitCount_0f7a4 45 = .ok (.iushr, 1) := by decide +kernel
theorem dJ6_bitCount_0f7a4_46 : decode cJ6_bitCount_0f7a4 46 = .ok (.iadd, 1) := by decide +kernel
theorem dJ6_bitCount_0f7a4_47 : decode cJ6_bitCount_0f7a4 47 = .ok (.istore_n 0, 1) := by decide +kernel
theorem dJ6_bitCount_0f7a4_48 : decode cJ6_bitCount_0f7a4 48 = .ok (.iload_n 0, 1) := by decide +kernel
theorem dJ6_bitCount_0f7a4_49 : decode cJ6_bitCount_0f7a4 49 = .ok (.bipush 63, 2) := by decide +kernel
theorem dJ6_bitCount_0f7a4_51 : decode cJ6_bitCount_0f7a4 51 = .ok (.iand, 1) := by decide +kernel
theorem dJ6_bitCount_0f7a4_52 : decode cJ6_bitCount_0f7a4 52 = .ok (.ireturn, 1) := by decide +kernel
theorem dJ9_max_7cf53_0 : decode cJ9_max_7cf53 0 = .ok (.iload_n 0, 1) := by decide +kernel
theorem dJ9_max_7cf53_1 : decode cJ9_max_7cf53 1 = .ok (.iload_n 1, 1) := by decide +kernel
theorem dJ9_max_7cf53_2 : decode cJ9_max_7cf53 2 = .ok (.if_icmp .lt 7, 3) := by decide +kernel
theorem dJ9_max_7cf53_5 : decode cJ9_max_7cf53 5 = .ok (.iload_n 0, 1) := by decide +kernel
theorem dJ9_max_7cf53_6 : decode cJ9_max_7cf53 6 = .ok (.goto 4, 3) := by decide +kernel
theorem dJ9_max_7cf53_9 : decode cJ9_max_7cf53 9 = .ok (.iload_n 1, 1) := by decide +kernel
theorem dJ9_max_7cf53_10 : decode cJ9_max_7cf53 10 = .ok (.ireturn, 1) := by decide +kernel
theorem dJ9_min_7cf53_0 : decode cJ9_min_7cf53 0 = .ok (.iload_n 0, 1) := by decide +kernel
theorem dJ9_min_7cf53_1 : decode cJ9_min_7cf53 1 = .ok (.iload_n 1, 1) := by decide +kernel
theorem dJ9_min_7cf53_2 : decode cJ9_min_7cf53 2 = .ok (.if_icmp .gt 7, 3) := by decide +kernel
theorem dJ9_min_7cf53_5 : decode cJ9_min_7cf53 5 = .ok (.iload_n 0, 1) := by decide +kernel
theorem dJ9_min_7cf53_6 : decode cJ9_min_7cf53 6 = .ok (.goto 4, 3) := by decide +kernel
theorem dJ9_min_7cf53_9 : decode cJ9_min_7cf53 9 = .ok (.iload_n 1, 1) := by decide +kernel
theorem dJ9_min_7cf53_10 : decode cJ9_min_7cf53 10 = .ok (.ireturn, 1) := by decide +kernel
theorem dJxa1e45_init_da8c8_0 : decode cJxa1e45_init_da8c8 0 = .ok (.aload_n 0, 1) := by decide +kernel
theorem dJxa1e45_init_da8c8_1 : decode cJxa1e45_init_da8c8 1 = .ok (.invokespecial 1, 3) := by decide +kernel
theorem dJxa1e45_init_da8c8_4 : decode cJxa1e45_init_da8c8 4 = .ok (.return_, 1) := by decide +kernel
set_option maxRecDepth 20000 in
theorem ggJxc12de_init_da8c8_Jxa1e45_init_da8c8 : GoodIn wsJxc12de_init_da8c8 wsJxa1e45_init_da8c8 := goodIn_r _ [5, 6, 7, 8] (by decide +kernel) (by decide +kernel)
set_option maxRecDepth 20000 in
theorem gJxc12de_init_da8c8_Jxa1e45_init_da8c8 : GoodIn wsJxc12de_init_da8c8 (wsJxa1e45_init_da8c8) := ggJxc12de_init_da8c8_Jxa1e45_init_da8c8
theorem dJxc12de_init_da8c8_0 : decode cJxc12de_init_da8c8 0 = .ok (.aload_n 0, 1) := by decide +kernel
theorem dJxc12de_init_da8c8_1 : decode cJxc12de_init_da8c8 1 = .ok (.invokespecial 1, 3) := by decide +kernel
theorem dJxc12de_init_da8c8_4 : decode cJxc12de_init_da8c8 4 = .ok (.aload_n 0, 1) := by decide +kernel
theorem dJxc12de_init_da8c8_5 : decode cJxc12de_init_da8c8 5 = .ok (.iconst 0, 1) := by decide +kernel
theorem dJxc12de_init_da8c8_6 : decode cJxc12de_init_da8c8 6 = .ok (.putfield 7, 3) := by decide +kernel
theorem dJxc12de_init_da8c8_9 : decode cJxc12de_init_da8c8 9 = .ok (.return_, 1) := by decide +kernel
set_option maxRecDepth 20000 in
theorem ggJx4a65c_init_da8c8_Jxc12de_init_da8c8 : GoodIn wsJx4a65c_init_da8c8 wsJxc12de_init_da8c8 := goodIn_r _ [6, 7, 8, 9, 10, 11, 12, 13, 14, 15, 16, 17] (by decide +kernel) (by decide +kernel)
set_option maxRecDepth 20000 in
theorem gJx4a65c_init_da8c8_Jxc12de_init_da8c8 : GoodIn wsJx4a65c_init_da8c8 (wsJxc12de_init_da8c8) := ggJx4a65c_init_da8c8_Jxc12de_init_da8c8
theorem dJx4a65c_init_da8c8_0 : decode cJx4a65c_init_da8c8 0 = .ok (.aload_n 0, 1) := by decide +kernel
theorem dJx4a65c_init_da8c8_1 : decode cJx4a65c_init_da8c8 1 = .ok (.invokespecial 1, 3) := by decide +kernel
theorem dJx4a65c_init_da8c8_4 : decode cJx4a65c_init_da8c8 4 = .ok (.aload_n 0, 1) := by decide +kernel
theorem dJx4a65c_init_da8c8_5 : decode cJx4a65c_init_da8c8 5 = .ok (.getstatic 39, 3) := by decide +kernel
theorem dJx4a65c_init_da8c8_8 : decode cJx4a65c_init_da8c8 8 = .ok (.putfield 9, 3) := by decide +kernel
theorem dJx4a65c_init_da8c8_11 : decode cJx4a65c_init_da8c8 11 = .ok (.return_, 1) := by decide +kernel
set_option maxRecDepth 20000 in
theorem ggJx4a65c_grow_92f84_J8_newLength_cabcc : GoodIn wsJx4a65c_grow_92f84 wsJ8_newLength_cabcc := goodIn_r _ [11, 12, 4, 5, 6, 13, 14, 15, 10, 16] (by decide +kernel) (by decide +kernel)
set_option maxRecDepth 20000 in
theorem gJx4a65c_grow_92f84_J8_newLength_cabcc : GoodIn wsJx4a65c_grow_92f84 (va_wsS RJx4a65c 73 yJ8_newLength_cabcc wsJ8_newLength_cabcc) := goodIn_app (goodIn_of _ (by decide +kernel)) ggJx4a65c_grow_92f84_J8_newLength_cabcc
set_option maxRecDepth 20000 in
theorem ggJx4a65c_grow_92f84_J7_copyOf_1904c : GoodIn wsJx4a65c_grow_92f84 wsJ7_copyOf_1904c := goodIn_r _ [20, 21, 22, 23, 24, 25, 26, 19, 27, 28, 29, 30, 31, 5, 32, 33, 34, 35, 36] (by decide +kernel) (by decide +kernel)
set_option maxRecDepth 20000 in
theorem gJx4a65c_grow_92f84_J7_copyOf_1904c : GoodIn wsJx4a65c_grow_92f84 (va_wsS RJx4a65c 66 yJ7_copyOf_1904c wsJ7_copyOf_1904c) := goodIn_app (goodIn_of _ (by decide +kernel)) ggJx4a65c_grow_92f84_J7_copyOf_1904c
theorem dJx4a65c_grow_92f84_0 : decode cJx4a65c_grow_92f84 0 = .ok (.aload_n 0, 1) := by decide +kernel
theorem dJx4a65c_grow_92f84_1 : decode cJx4a65c_grow_92f84 1 = .ok (.getfield 9, 3) := by decide +kernel
theorem dJx4a65c_grow_92f84_4 : decode cJx4a65c_grow_92f84 4 = .ok (.arraylength, 1) := by decide +kernel
theorem dJx4a65c_grow_92f84_5 : decode cJx4a65c_grow_92f84 5 = .ok (.istore_n 2, 1) := by decide +kernel
theorem dJx4a65c_grow_92f84_6 : decode cJx4a65c_grow_92f84 6 = .ok (.iload_n 2, 1) := by decide +kernel
theorem dJx4a65c_grow_92f84_7 : decode cJx4a65c_grow_92f84 7 = .ok (.ifCond .gt 13, 3) := by decide +kernel
theorem dJx4a65c_grow_92f84_10 : decode cJx4a65c_grow_92f84 10 = .ok (.aload_n 0, 1) := by decide +kernel
theorem dJx4a65c_grow_92f84_11 : decode cJx4a65c_grow_92f84 11 = .ok (.getfield 9, 3) := by decide +kernel
theorem dJx4a65c_grow_92f84_14 : decode cJx4a65c_grow_92f84 14 = .ok (.getstatic 39, 3) := by decide +kernel
theorem dJx4a65c_grow_92f84_17 : decode cJx4a65c_grow_92f84 17 = .ok (.if_acmp .eq 28, 3) := by decide +kernel
theorem dJx4a65c_grow_92f84_20 : decode cJx4a65c_grow_92f84 20 = .ok (.iload_n 2, 1) := by decide +kernel
theorem dJx4a65c_grow_92f84_21 : decode cJx4a65c_grow_92f84 21 = .ok (.iload_n 1, 1) := by decide +kernel
theorem dJx4a65c_grow_92f84_22 : decode cJx4a65c_grow_92f84 22 = .ok (.iload_n 2, 1) := by decide +kernel
theorem dJx4a65c_grow_92f84_23 : decode cJx4a65c_grow_92f84 23 = .ok (.isub, 1) := by decide +kernel
theorem dJx4a65c_grow_92f84_24 : decode cJx4a65c_grow_92f84 24 = .ok (.iload_n 2, 1) := by decide +kernel
theorem dJx4a65c_grow_92f84_25 : decode cJx4a65c_grow_92f84 25 = .ok (.iconst 1, 1) := by decide +kernel
theorem dJx4a65c_grow_92f84_26 : decode cJx4a65c_grow_92f84 26 = .ok (.ishr, 1) := by decide +kernel
theorem dJx4a65c_grow_92f84_27 : decode cJx4a65c_grow_92f84 27 = .ok (.invokestatic 73, 3) := by decide +kernel
theorem dJx4a65c_grow_92f84_30 : decode cJx4a65c_grow_92f84 30 = .ok (.istore_n 3, 1) := by decide +kernel
theorem dJx4a65c_grow_92f84_31 : decode cJx4a65c_grow_92f84 31 = .ok (.aload_n 0, 1) := by decide +kernel
theorem dJx4a65c_grow_92f84_32 : decode cJx4a65c_grow_92f84 32 = .ok (.aload_n 0, 1) := by decide +kernel
theorem dJx4a65c_grow_92f84_33 : decode cJx4a65c_grow_92f84 33 = .ok (.getfield 9, 3) := by decide +kernel
theorem dJx4a65c_grow_92f84_36 : decode cJx4a65c_grow_92f84 36 = .ok (.iload_n 3, 1) := by decide +kernel
theorem dJx4a65c_grow_92f84_37 : decode cJx4a65c_grow_92f84 37 = .ok (.invokestatic 66, 3) := by decide +kernel
theorem dJx4a65c_grow_92f84_40 : decode cJx4a65c_grow_92f84 40 = .ok (.dup_x1, 1) := by decide +kernel
theorem dJx4a65c_grow_92f84_41 : decode cJx4a65c_grow_92f84 41 = .ok (.putfield 9, 3) := by decide +kernel
theorem dJx4a65c_grow_92f84_44 : decode cJx4a65c_grow_92f84 44 = .ok (.areturn, 1) := by decide +kernel
theorem dJx4a65c_grow_92f84_45 : decode cJx4a65c_grow_92f84 45 = .ok (.aload_n 0, 1) := by decide +kernel
theorem dJx4a65c_grow_92f84_46 : decode cJx4a65c_grow_92f84 46 = .ok (.bipush 10, 2) := by decide +kernel
theorem dJx4a65c_grow_92f84_48 : decode cJx4a65c_grow_92f84 48 = .ok (.iload_n 1, 1) := by decide +kernel
theorem dJx4a65c_grow_92f84_49 : decode cJx4a65c_grow_92f84 49 = .ok (.invokestatic 79, 3) := by decide +kernel
theorem dJx4a65c_grow_92f84_52 : decode cJx4a65c_grow_92f84 52 = .ok (.anewarray 7, 3) := by decide +kernel
theorem dJx4a65c_grow_92f84_55 : decode cJx4a65c_grow_92f84 55 = .ok (.dup_x1, 1) := by decide +kernel
theorem dJx4a65c_grow_92f84_56 : decode cJx4a65c_grow_92f84 56 = .ok (.putfield 9, 3) := by decide +kernel
theorem dJx4a65c_grow_92f84_59 : decode cJx4a65c_grow_92f84 59 = .ok (.areturn, 1) := by decide +kernel
set_option maxRecDepth 20000 in
theorem ggJx4a65c_grow_d5877_Jx4a65c_grow_92f84 : GoodIn wsJx4a65c_grow_d5877 wsJx4a65c_grow_92f84 := goodIn_r _ [6, 7, 8, 9, 10, 11, 12, 13, 14, 15, 16, 17, 18, 19, 20, 21, 22, 23, 24, 25, 26, 27, 28, 29, 30, 31, 32, 33, 34, 35, 36, 37, 38, 39, 40, 41, 42, 43, 44, 45] (by decide +kernel) (by decide +kernel)
set_option maxRecDepth 20000 in
theorem gJx4a65c_grow_d5877_Jx4a65c_grow_92f84 : GoodIn wsJx4a65c_grow_d5877 (wsV RJx4a65c 69 RJx4a65c yJx4a65c_grow_92f84 wsJx4a65c_grow_92f84) := goodIn_app (goodIn_of _ (by decide +kernel)) ggJx4a65c_grow_d5877_Jx4a65c_grow_92f84
theorem dJx4a65c_grow_d5877_0 : decode cJx4a65c_grow_d5877 0 = .ok (.aload_n 0, 1) := by decide +kernel
theorem dJx4a65c_grow_d5877_1 : decode cJx4a65c_grow_d5877 1 = .ok (.aload_n 0, 1) := by decide +kernel
theorem dJx4a65c_grow_d5877_2 : decode cJx4a65c_grow_d5877 2 = .ok (.getfield 48, 3) := by decide +kernel
theorem dJx4a65c_grow_d5877_5 : decode cJx4a65c_grow_d5877 5 = .ok (.iconst 1, 1) := by decide +kernel
theorem dJx4a65c_grow_d5877_6 : decode cJx4a65c_grow_d5877 6 = .ok (.iadd, 1) := by decide +kernel
theorem dJx4a65c_grow_d5877_7 : decode cJx4a65c_grow_d5877 7 = .ok (.invokevirtual 69, 3) := by decide +kernel
theorem dJx4a65c_grow_d5877_10 : decode cJx4a65c_grow_d5877 10 = .ok (.areturn, 1) := by decide +kernel
theorem dJx4a65c_size_8abf5_0 : decode cJx4a65c_size_8abf5 0 = .ok (.aload_n 0, 1) := by decide +kernel
theorem dJx4a65c_size_8abf5_1 : decode cJx4a65c_size_8abf5 1 = .ok (.getfield 48, 3) := by decide +kernel
theorem dJx4a65c_size_8abf5_4 : decode cJx4a65c_size_8abf5 4 = .ok (.ireturn, 1) := by decide +kernel
theorem dJx4a65c_elementData_915e3_0 : decode cJx4a65c_elementData_915e3 0 = .ok (.aload_n 0, 1) := by decide +kernel
theorem dJx4a65c_elementData_915e3_1 : decode cJx4a65c_elementData_915e3 1 = .ok (.getfield 9, 3) := by decide +kernel
theorem dJx4a65c_elementData_915e3_4 : decode cJx4a65c_elementData_915e3 4 = .ok (.iload_n 1, 1) := by decide +kernel
theorem dJx4a65c_elementData_915e3_5 : decode cJx4a65c_elementData_915e3 5 = .ok (.aaload, 1) := by decide +kernel
theorem dJx4a65c_elementData_915e3_6 : decode cJx4a65c_elementData_915e3 6 = .ok (.areturn, 1) := by decide +kernel
set_option maxRecDepth 20000 in
theorem ggJx4a65c_get_915e3_J15_checkIndex_7cf53 : GoodIn wsJx4a65c_get_915e3 wsJ15_checkIndex_7cf53 := goodIn_r _ [5, 6, 7, 8, 9] (by decide +kernel) (by decide +kernel)
set_option maxRecDepth 20000 in
theorem gJx4a65c_get_915e3_J15_checkIndex_7cf53 : GoodIn wsJx4a65c_get_915e3 (va_wsS RJx4a65c 118 yJ15_checkIndex_7cf53 wsJ15_checkIndex_7cf53) := goodIn_app (goodIn_of _ (by decide +kernel)) ggJx4a65c_get_915e3_J15_checkIndex_7cf53
set_option maxRecDepth 20000 in
theorem ggJx4a65c_get_915e3_Jx4a65c_elementData_915e3 : GoodIn wsJx4a65c_get_915e3 wsJx4a65c_elementData_915e3 := goodIn_r _ [14, 15, 16, 17, 18] (by decide +kernel) (by decide +kernel)
set_option maxRecDepth 20000 in
theorem gJx4a65c_get_915e3_Jx4a65c_elementData_915e3 : GoodIn wsJx4a65c_get_915e3 (wsV RJx4a65c 123 RJx4a65c yJx4a65c_elementData_915e3 wsJx4a65c_elementData_915e3) := goodIn_app (goodIn_of _ (by decide +kernel)) ggJx4a65c_get_915e3_Jx4a65c_elementData_915e3
theorem dJx4a65c_get_915e3_0 : decode cJx4a65c_get_915e3 0 = .ok (.iload_n 1, 1) := by decide +kernel
theorem dJx4a65c_get_915e3_1 : decode cJx4a65c_get_915e3 1 = .ok (.aload_n 0, 1) := by decide +kernel
theorem dJx4a65c_get_915e3_2 : decode cJx4a65c_get_915e3 2 = .ok (.getfield 48, 3) := by decide +kernel
theorem dJx4a65c_get_915e3_5 : decode cJx4a65c_get_915e3 5 = .ok (.invokestatic 118, 3) := by decide +kernel
theorem dJx4a65c_get_915e3_8 : decode cJx4a65c_get_915e3 8 = .ok (.pop, 1) := by decide +kernel
theorem dJx4a65c_get_915e3_9 : decode cJx4a65c_get_915e3 9 = .ok (.aload_n 0, 1) := by decide +kernel
theorem dJx4a65c_get_915e3_10 : decode cJx4a65c_get_915e3 10 = .ok (.iload_n 1, 1) := by decide +kernel
theorem dJx4a65c_get_915e3_11 : decode cJx4a65c_get_915e3 11 = .ok (.invokevirtual 123, 3) := by decide +kernel
theorem dJx4a65c_get_915e3_14 : decode cJx4a65c_get_915e3 14 = .ok (.areturn, 1) := by decide +kernel
set_option maxRecDepth 20000 in
theorem ggJx4a65c_add_72be8_Jx4a65c_grow_d5877 : GoodIn wsJx4a65c_add_72be8 wsJx4a65c_grow_d5877 := goodIn_r _ [6, 1, 7, 8, 9, 5, 10, 11, 12, 13, 14, 15, 16, 17, 18, 19, 20, 21, 22, 23, 24, 25, 26, 27, 28, 29, 30, 31, 32, 33, 34, 35, 36, 37, 38, 39, 40, 41, 42, 43, 44, 45, 46, 47, 48, 49] (by decide +kernel) (by decide +kernel)
set_option maxRecDepth 20000 in
theorem gJx4a65c_add_72be8_Jx4a65c_grow_d5877 : GoodIn wsJx4a65c_add_72be8 (wsV RJx4a65c 129 RJx4a65c yJx4a65c_grow_d5877 wsJx4a65c_grow_d5877) := goodIn_app (goodIn_of _ (by decide +kernel)) ggJx4a65c_add_72be8_Jx4a65c_grow_d5877
theorem dJx4a65c_add_72be8_0 : decode cJx4a65c_add_72be8 0 = .ok (.iload_n 3, 1) := by decide +kernel
theorem dJx4a65c_add_72be8_1 : decode cJx4a65c_add_72be8 1 = .ok (.aload_n 2, 1) := by decide +kernel
theorem dJx4a65c_add_72be8_2 : decode cJx4a65c_add_72be8 2 = .ok (.arraylength, 1) := by decide +kernel
theorem dJx4a65c_add_72be8_3 : decode cJx4a65c_add_72be8 3 = .ok (.if_icmp .ne 8, 3) := by decide +kernel
theorem dJx4a65c_add_72be8_6 : decode cJx4a65c_add_72be8 6 = .ok (.aload_n 0, 1) := by decide +kernel
theorem dJx4a65c_add_72be8_7 : decode cJx4a65c_add_72be8 7 = .ok (.invokevirtual 129, 3) := by decide +kernel
theorem dJx4a65c_add_72be8_10 : decode cJx4a65c_add_72be8 10 = .ok (.astore_n 2, 1) := by decide +kernel
theorem dJx4a65c_add_72be8_11 : decode cJx4a65c_add_72be8 11 = .ok (.aload_n 2, 1) := by decide +kernel
theorem dJx4a65c_add_72be8_12 : decode cJx4a65c_add_72be8 12 = .ok (.iload_n 3, 1) := by decide +kernel
theorem dJx4a65c_add_72be8_13 : decode cJx4a65c_add_72be8 13 = .ok (.aload_n 1, 1) := by decide +kernel
theorem dJx4a65c_add_72be8_14 : decode cJx4a65c_add_72be8 14 = .ok (.aastore, 1) := by decide +kernel
theorem dJx4a65c_add_72be8_15 : decode cJx4a65c_add_72be8 15 = .ok (.aload_n 0, 1) := by decide +kernel
theorem dJx4a65c_add_72be8_16 : decode cJx4a65c_add_72be8 16 = .ok (.iload_n 3, 1) := by decide +kernel
theorem dJx4a65c_add_72be8_17 : decode cJx4a65c_add_72be8 17 = .ok (.iconst 1, 1) := by decide +kernel
theorem dJx4a65c_add_72be8_18 : decode cJx4a65c_add_72be8 18 = .ok (.iadd, 1) := by decide +kernel
theorem dJx4a65c_add_72be8_19 : decode cJx4a65c_add_72be8 19 = .ok (.putfield 48, 3) := by decide +kernel
theorem dJx4a65c_add_72be8_22 : decode cJx4a65c_add_72be8 22 = .ok (.return_, 1) := by decide +kernel
set_option maxRecDepth 20000 in
theorem ggJx4a65c_add_9ea2d_Jx4a65c_add_72be8 : GoodIn wsJx4a65c_add_9ea2d wsJx4a65c_add_72be8 := goodIn_r _ [9, 4, 10, 11, 12, 8, 13, 14, 15, 16, 17, 3, 18, 19, 20, 21, 22, 23, 24, 25, 26, 27, 28, 29, 30, 31, 32, 33, 34, 35, 36, 37, 38, 39, 40, 41, 42, 43, 44, 45, 46, 47, 48, 49, 50, 51, 52, 53, 54, 55] (by decide +kernel) (by decide +kernel)
set_option maxRecDepth 20000 in
theorem gJx4a65c_add_9ea2d_Jx4a65c_add_72be8 : GoodIn wsJx4a65c_add_9ea2d (wsV RJx4a65c 131 RJx4a65c yJx4a65c_add_72be8 wsJx4a65c_add_72be8) := goodIn_app (goodIn_of _ (by decide +kernel)) ggJx4a65c_add_9ea2d_Jx4a65c_add_72be8
theorem dJx4a65c_add_9ea2d_0 : decode cJx4a65c_add_9ea2d 0 = .ok (.aload_n 0, 1) := by decide +kernel
theorem dJx4a65c_add_9ea2d_1 : decode cJx4a65c_add_9ea2d 1 = .ok (.dup, 1) := by decide +kernel
theorem dJx4a65c_add_9ea2d_2 : decode cJx4a65c_add_9ea2d 2 = .ok (.getfield 63, 3) := by decide +kernel
theorem dJx4a65c_add_9ea2d_5 : decode cJx4a65c_add_9ea2d 5 = .ok (.iconst 1, 1) := by decide +kernel
theorem dJx4a65c_add_9ea2d_6 : decode cJx4a65c_add_9ea2d 6 = .ok (.iadd, 1) := by decide +kernel
theorem dJx4a65c_add_9ea2d_7 : decode cJx4a65c_add_9ea2d 7 = .ok (.putfield 63, 3) := by decide +kernel
theorem dJx4a65c_add_9ea2d_10 : decode cJx4a65c_add_9ea2d 10 = .ok (.aload_n 0, 1) := by decide +kernel
theorem dJx4a65c_add_9ea2d_11 : decode cJx4a65c_add_9ea2d 11 = .ok (.aload_n 1, 1) := by decide +kernel
theorem dJx4a65c_add_9ea2d_12 : decode cJx4a65c_add_9ea2d 12 = .ok (.aload_n 0, 1) := by decide +kernel
theorem dJx4a65c_add_9ea2d_13 : decode cJx4a65c_add_9ea2d 13 = .ok (.getfield 9, 3) := by decide +kernel
theorem dJx4a65c_add_9ea2d_16 : decode cJx4a65c_add_9ea2d 16 = .ok (.aload_n 0, 1) := by decide +kernel
theorem dJx4a65c_add_9ea2d_17 : decode cJx4a65c_add_9ea2d 17 = .ok (.getfield 48, 3) := by decide +kernel
theorem dJx4a65c_add_9ea2d_20 : decode cJx4a65c_add_9ea2d 20 = .ok (.invokevirtual 131, 3) := by decide +kernel
theorem dJx4a65c_add_9ea2d_23 : decode cJx4a65c_add_9ea2d 23 = .ok (.iconst 1, 1) := by decide +kernel
theorem dJx4a65c_add_9ea2d_24 : decode cJx4a65c_add_9ea2d 24 = .ok (.ireturn, 1) := by decide +kernel
set_option maxRecDepth 20000 in
theorem ggJ7_copyOf_1904c_J7_copyOf_6403c : GoodIn wsJ7_copyOf_1904c wsJ7_copyOf_6403c := goodIn_r _ [8, 9, 10, 11, 12, 13, 14, 15, 16, 17, 18] (by decide +kernel) (by decide +kernel)
set_option maxRecDepth 20000 in
theorem gJ7_copyOf_1904c_J7_copyOf_6403c : GoodIn wsJ7_copyOf_1904c (va_wsS RJ7 300 yJ7_copyOf_6403c wsJ7_copyOf_6403c) := goodIn_app (goodIn_of _ (by decide +kernel)) ggJ7_copyOf_1904c_J7_copyOf_6403c
theorem dJ7_copyOf_1904c_0 : decode cJ7_copyOf_1904c 0 = .ok (.aload_n 0, 1) := by decide +kernel
theorem dJ7_copyOf_1904c_1 : decode cJ7_copyOf_1904c 1 = .ok (.iload_n 1, 1) := by decide +kernel
theorem dJ7_copyOf_1904c_2 : decode cJ7_copyOf_1904c 2 = .ok (.aload_n 0, 1) := by decide +kernel
theorem dJ7_copyOf_1904c_3 : decode cJ7_copyOf_1904c 3 = .ok (.invokevirtual 86, 3) := by decide +kernel
theorem dJ7_copyOf_1904c_6 : decode cJ7_copyOf_1904c 6 = .ok (.invokestatic 300, 3) := by decide +kernel
theorem dJ7_copyOf_1904c_9 : decode cJ7_copyOf_1904c 9 = .ok (.areturn, 1) := by decide +kernel
theorem dJ7_copyOf_6403c_0 : decode cJ7_copyOf_6403c 0 = .ok (.aload_n 2, 1) := by decide +kernel
theorem dJ7_copyOf_6403c_1 : decode cJ7_copyOf_6403c 1 = .ok (.ldc 110, 2) := by decide +kernel
theorem dJ7_copyOf_6403c_3 : decode cJ7_copyOf_6403c 3 = .ok (.if_acmp .ne 10, 3) := by decide +kernel
theorem dJ7_copyOf_6403c_6 : decode cJ7_copyOf_6403c 6 = .ok (.iload_n 1, 1) := by decide +kernel
theorem dJ7_copyOf_6403c_7 : decode cJ7_copyOf_6403c 7 = .ok (.anewarray 2, 3) := by decide +kernel
theorem dJ7_copyOf_6403c_10 : decode cJ7_copyOf_6403c 10 = .ok (.goto 14, 3) := by decide +kernel
theorem dJ7_copyOf_6403c_13 : decode cJ7_copyOf_6403c 13 = .ok (.aload_n 2, 1) := by decide +kernel
theorem dJ7_copyOf_6403c_14 : decode cJ7_copyOf_6403c 14 = .ok (.invokevirtual 90, 3) := by decide +kernel
theorem dJ7_copyOf_6403c_17 : decode cJ7_copyOf_6403c 17 = .ok (.iload_n 1, 1) := by decide +kernel
theorem dJ7_copyOf_6403c_18 : decode cJ7_copyOf_6403c 18 = .ok (.invokestatic 95, 3) := by decide +kernel
theorem dJ7_copyOf_6403c_21 : decode cJ7_copyOf_6403c 21 = .ok (.checkcast 110, 3) := by decide +kernel
theorem dJ7_copyOf_6403c_24 : decode cJ7_copyOf_6403c 24 = .ok (.astore_n 3, 1) := by decide +kernel
theorem dJ7_copyOf_6403c_25 : decode cJ7_copyOf_6403c 25 = .ok (.aload_n 0, 1) := by decide +kernel
theorem dJ7_copyOf_6403c_26 : decode cJ7_copyOf_6403c 26 = .ok (.iconst 0, 1) := by decide +kernel
theorem dJ7_copyOf_6403c_27 : decode cJ7_copyOf_6403c 27 = .ok (.aload_n 3, 1) := by decide +kernel
theorem dJ7_copyOf_6403c_28 : decode cJ7_copyOf_6403c 28 = .ok (.iconst 0, 1) := by decide +kernel
theorem dJ7_copyOf_6403c_29 : decode cJ7_copyOf_6403c 29 = .ok (.aload_n 0, 1) := by decide +kernel
theorem dJ7_copyOf_6403c_30 : decode cJ7_copyOf_6403c 30 = .ok (.arraylength, 1) := by decide +kernel
theorem dJ7_copyOf_6403c_31 : decode cJ7_copyOf_6403c 31 = .ok (.iload_n 1, 1) := by decide +kernel
theorem dJ7_copyOf_6403c_32 : decode cJ7_copyOf_6403c 32 = .ok (.invokestatic 304, 3) := by decide +kernel
theorem dJ7_copyOf_6403c_35 : decode cJ7_copyOf_6403c 35 = .ok (.invokestatic 150, 3) := by decide +kernel
theorem dJ7_copyOf_6403c_38 : decode cJ7_copyOf_6403c 38 = .ok (.aload_n 3, 1) := by decide +kernel
theorem dJ7_copyOf_6403c_39 : decode cJ7_copyOf_6403c 39 = .ok (.areturn, 1) := by decide +kernel
set_option maxRecDepth 20000 in
theorem ggJ15_checkIndex_7cf53_J3_checkIndex_8e157 : GoodIn wsJ15_checkIndex_7cf53 wsJ3_checkIndex_8e157 := goodIn_r _ [4] (by decide +kernel) (by decide +kernel)
set_option maxRecDepth 20000 in
theorem gJ15_checkIndex_7cf53_J3_checkIndex_8e157 : GoodIn wsJ15_checkIndex_7cf53 (va_wsS RJ15 105 yJ3_checkIndex_8e157 wsJ3_checkIndex_8e157) := goodIn_app (goodIn_of _ (by decide +kernel)) ggJ15_checkIndex_7cf53_J3_checkIndex_8e157
theorem dJ15_checkIndex_7cf53_0 : decode cJ15_checkIndex_7cf53 0 = .ok (.iload_n 0, 1) := by decide +kernel
theorem dJ15_checkIndex_7cf53_1 : decode cJ15_checkIndex_7cf53 1 = .ok (.iload_n 1, 1) := by decide +kernel
theorem dJ15_checkIndex_7cf53_2 : decode cJ15_checkIndex_7cf53 2 = .ok (.aconst_null, 1) := by decide +kernel
theorem dJ15_checkIndex_7cf53_3 : decode cJ15_checkIndex_7cf53 3 = .ok (.invokestatic 105, 3) := by decide +kernel
theorem dJ15_checkIndex_7cf53_6 : decode cJ15_checkIndex_7cf53 6 = .ok (.ireturn, 1) := by decide +kernel
set_option maxRecDepth 20000 in
theorem ggJ8_newLength_cabcc_J8_hugeLength_7cf53 : GoodIn wsJ8_newLength_cabcc wsJ8_hugeLength_7cf53 := goodIn_r _ [9, 5] (by decide +kernel) (by decide +kernel)
set_option maxRecDepth 20000 in
theorem gJ8_newLength_cabcc_J8_hugeLength_7cf53 : GoodIn wsJ8_newLength_cabcc (va_wsS RJ8 201 yJ8_hugeLength_7cf53 wsJ8_hugeLength_7cf53) := goodIn_app (goodIn_of _ (by decide +kernel)) ggJ8_newLength_cabcc_J8_hugeLength_7cf53
theorem dJ8_newLength_cabcc_0 : decode cJ8_newLength_cabcc 0 = .ok (.iload_n 0, 1) := by decide +kernel
theorem dJ8_newLength_cabcc_1 : decode cJ8_newLength_cabcc 1 = .ok (.iload_n 1, 1) := by decide +kernel
theorem dJ8_newLength_cabcc_2 : decode cJ8_newLength_cabcc 2 = .ok (.iload_n 2, 1) := by decide +kernel
theorem dJ8_newLength_cabcc_3 : decode cJ8_newLength_cabcc 3 = .ok (.invokestatic 194, 3) := by decide +kernel
theorem dJ8_newLength_cabcc_6 : decode cJ8_newLength_cabcc 6 = .ok (.iadd, 1) := by decide +kernel
theorem dJ8_newLength_cabcc_7 : decode cJ8_newLength_cabcc 7 = .ok (.istore_n 3, 1) := by decide +kernel
theorem dJ8_newLength_cabcc_8 : decode cJ8_newLength_cabcc 8 = .ok (.iconst 0, 1) := by decide +kernel
theorem dJ8_newLength_cabcc_9 : decode cJ8_newLength_cabcc 9 = .ok (.iload_n 3, 1) := by decide +kernel
theorem dJ8_newLength_cabcc_10 : decode cJ8_newLength_cabcc 10 = .ok (.if_icmp .ge 11, 3) := by decide +kernel
theorem dJ8_newLength_cabcc_13 : decode cJ8_newLength_cabcc 13 = .ok (.iload_n 3, 1) := by decide +kernel
theorem dJ8_newLength_cabcc_14 : decode cJ8_newLength_cabcc 14 = .ok (.ldc 200, 2) := by decide +kernel
theorem dJ8_newLength_cabcc_16 : decode cJ8_newLength_cabcc 16 = .ok (.if_icmp .gt 5, 3) := by decide +kernel
theorem dJ8_newLength_cabcc_19 : decode cJ8_newLength_cabcc 19 = .ok (.iload_n 3, 1) := by decide +kernel
theorem dJ8_newLength_cabcc_20 : decode cJ8_newLength_cabcc 20 = .ok (.ireturn, 1) := by decide +kernel
theorem dJ8_newLength_cabcc_21 : decode cJ8_newLength_cabcc 21 = .ok (.iload_n 0, 1) := by decide +kernel
theorem dJ8_newLength_cabcc_22 : decode cJ8_newLength_cabcc 22 = .ok (.iload_n 1, 1) := by decide +kernel
theorem dJ8_newLength_cabcc_23 : decode cJ8_newLength_cabcc 23 = .ok (.invokestatic 201, 3) := by decide +kernel
theorem dJ8_newLength_cabcc_26 : decode cJ8_newLength_cabcc 26 = .ok (.ireturn, 1) := by decide +kernel
theorem dJ8_hugeLength_7cf53_0 : decode cJ8_hugeLength_7cf53 0 = .ok (.iload_n 0, 1) := by decide +kernel
theorem dJ8_hugeLength_7cf53_1 : decode cJ8_hugeLength_7cf53 1 = .ok (.iload_n 1, 1) := by decide +kernel
theorem dJ8_hugeLength_7cf53_2 : decode cJ8_hugeLength_7cf53 2 = .ok (.iadd, 1) := by decide +kernel
theorem dJ8_hugeLength_7cf53_3 : decode cJ8_hugeLength_7cf53 3 = .ok (.istore_n 2, 1) := by decide +kernel
theorem dJ8_hugeLength_7cf53_4 : decode cJ8_hugeLength_7cf53 4 = .ok (.iload_n 2, 1) := by decide +kernel
theorem dJ8_hugeLength_7cf53_5 : decode cJ8_hugeLength_7cf53 5 = .ok (.ifCond .ge 44, 3) := by decide +kernel
theorem dJ8_hugeLength_7cf53_8 : decode cJ8_hugeLength_7cf53 8 = .ok (.new 204, 3) := by decide +kernel
theorem dJ8_hugeLength_7cf53_11 : decode cJ8_hugeLength_7cf53 11 = .ok (.dup, 1) := by decide +kernel
theorem dJ8_hugeLength_7cf53_12 : decode cJ8_hugeLength_7cf53 12 = .ok (.new 89, 3) := by decide +kernel
theorem dJ8_hugeLength_7cf53_15 : decode cJ8_hugeLength_7cf53 15 = .ok (.dup, 1) := by decide +kernel
theorem dJ8_hugeLength_7cf53_16 : decode cJ8_hugeLength_7cf53 16 = .ok (.invokespecial 91, 3) := by decide +kernel
theorem dJ8_hugeLength_7cf53_19 : decode cJ8_hugeLength_7cf53 19 = .ok (.ldc 206, 2) := by decide +kernel
theorem dJ8_hugeLength_7cf53_21 : decode cJ8_hugeLength_7cf53 21 = .ok (.invokevirtual 94, 3) := by decide +kernel
theorem dJ8_hugeLength_7cf53_24 : decode cJ8_hugeLength_7cf53 24 = .ok (.iload_n 0, 1) := by decide +kernel
theorem dJ8_hugeLength_7cf53_25 : decode cJ8_hugeLength_7cf53 25 = .ok (.invokevirtual 98, 3) := by decide +kernel
theorem dJ8_hugeLength_7cf53_28 : decode cJ8_hugeLength_7cf53 28 = .ok (.ldc 208, 2) := by decide +kernel
theorem dJ8_hugeLength_7cf53_30 : decode cJ8_hugeLength_7cf53 30 = .ok (.invokevirtual 94, 3) := by decide +kernel
theorem dJ8_hugeLength_7cf53_33 : decode cJ8_hugeLength_7cf53 33 = .ok (.iload_n 1, 1) := by decide +kernel
theorem dJ8_hugeLength_7cf53_34 : decode cJ8_hugeLength_7cf53 34 = .ok (.invokevirtual 98, 3) := by decide +kernel
theorem dJ8_hugeLength_7cf53_37 : decode cJ8_hugeLength_7cf53 37 = .ok (.ldc 210, 2) := by decide +kernel
theorem dJ8_hugeLength_7cf53_39 : decode cJ8_hugeLength_7cf53 39 = .ok (.invokevirtual 94, 3) := by decide +kernel
theorem dJ8_hugeLength_7cf53_42 : decode cJ8_hugeLength_7cf53 42 = .ok (.invokevirtual 101, 3) := by decide +kernel
theorem dJ8_hugeLength_7cf53_45 : decode cJ8_hugeLength_7cf53 45 = .ok (.invokespecial 212, 3) := by decide +kernel
theorem dJ8_hugeLength_7cf53_48 : decode cJ8_hugeLength_7cf53 48 = .ok (.athrow, 1) := by decide +kernel
theorem dJ8_hugeLength_7cf53_49 : decode cJ8_hugeLength_7cf53 49 = .ok (.iload_n 2, 1) := by decide +kernel
theorem dJ8_hugeLength_7cf53_50 : decode cJ8_hugeLength_7cf53 50 = .ok (.ldc 200, 2) := by decide +kernel
theorem dJ8_hugeLength_7cf53_52 : decode cJ8_hugeLength_7cf53 52 = .ok (.if_icmp .gt 6, 3) := by decide +kernel
theorem dJ8_hugeLength_7cf53_55 : decode cJ8_hugeLength_7cf53 55 = .ok (.ldc 200, 2) := by decide +kernel
theorem dJ8_hugeLength_7cf53_57 : decode cJ8_hugeLength_7cf53 57 = .ok (.ireturn, 1) := by decide +kernel
theorem dJ8_hugeLength_7cf53_58 : decode cJ8_hugeLength_7cf53 58 = .ok (.iload_n 2, 1) := by decide +kernel
theorem dJ8_hugeLength_7cf53_59 : decode cJ8_hugeLength_7cf53 59 = .ok (.ireturn, 1) := by decide +kernel
theorem dJ3_checkIndex_8e157_0 : decode cJ3_checkIndex_8e157 0 = .ok (.iload_n 0, 1) := by decide +kernel
theorem dJ3_checkIndex_8e157_1 : decode cJ3_checkIndex_8e157 1 = .ok (.ifCond .lt 8, 3) := by decide +kernel
theorem dJ3_checkIndex_8e157_4 : decode cJ3_checkIndex_8e157 4 = .ok (.iload_n 0, 1) := by decide +kernel
theorem dJ3_checkIndex_8e157_5 : decode cJ3_checkIndex_8e157 5 = .ok (.iload_n 1, 1) := by decide +kernel
theorem dJ3_checkIndex_8e157_6 : decode cJ3_checkIndex_8e157 6 = .ok (.if_icmp .lt 10, 3) := by decide +kernel
theorem dJ3_checkIndex_8e157_9 : decode cJ3_checkIndex_8e157 9 = .ok (.aload_n 2, 1) := by decide +kernel
theorem dJ3_checkIndex_8e157_10 : decode cJ3_checkIndex_8e157 10 = .ok (.iload_n 0, 1) := by decide +kernel
theorem dJ3_checkIndex_8e157_11 : decode cJ3_checkIndex_8e157 11 = .ok (.iload_n 1, 1) := by decide +kernel
theorem dJ3_checkIndex_8e157_12 : decode cJ3_checkIndex_8e157 12 = .ok (.invokestatic 95, 3) := by decide +kernel
theorem dJ3_checkIndex_8e157_15 : decode cJ3_checkIndex_8e157 15 = .ok (.athrow, 1) := by decide +kernel
theorem dJ3_checkIndex_8e157_16 : decode cJ3_checkIndex_8e157 16 = .ok (.iload_n 0, 1) := by decide +kernel
theorem dJ3_checkIndex_8e157_17 : decode cJ3_checkIndex_8e157 17 = .ok (.ireturn, 1) := by decide +kernel
theorem dL_part_0 : decode cL_part 0 = .ok (.iload_n 1, 1) := by decide +kernel
theorem dL_part_1 : decode cL_part 1 = .ok (.aload_n 0, 1) := by decide +kernel
theorem dL_part_2 : decode cL_part 2 = .ok (.arraylength, 1) := by decide +kernel
theorem dL_part_3 : decode cL_part 3 = .ok (.if_icmp .ge 9, 3) := by decide +kernel
theorem dL_part_6 : decode cL_part 6 = .ok (.aload_n 0, 1) := by decide +kernel
theorem dL_part_7 : decode cL_part 7 = .ok (.iload_n 1, 1) := by decide +kernel
theorem dL_part_8 : decode cL_part 8 = .ok (.iaload, 1) := by decide +kernel
theorem dL_part_9 : decode cL_part 9 = .ok (.goto 16, 3) := by decide +kernel
theorem dL_part_12 : decode cL_part 12 = .ok (.sipush 271, 3) := by decide +kernel
theorem dL_part_15 : decode cL_part 15 = .ok (.iload_n 1, 1) := by decide +kernel
theorem dL_part_16 : decode cL_part 16 = .ok (.imul, 1) := by decide +kernel
theorem dL_part_17 : decode cL_part 17 = .ok (.sipush 151, 3) := by decide +kernel
theorem dL_part_20 : decode cL_part 20 = .ok (.iload_n 1, 1) := by decide +kernel
theorem dL_part_21 : decode cL_part 21 = .ok (.imul, 1) := by decide +kernel
theorem dL_part_22 : decode cL_part 22 = .ok (.iload_n 1, 1) := by decide +kernel
theorem dL_part_23 : decode cL_part 23 = .ok (.imul, 1) := by decide +kernel
theorem dL_part_24 : decode cL_part 24 = .ok (.iadd, 1) := by decide +kernel
theorem dL_part_25 : decode cL_part 25 = .ok (.istore_n 3, 1) := by decide +kernel
theorem dL_part_26 : decode cL_part 26 = .ok (.iload_n 3, 1) := by decide +kernel
theorem dL_part_27 : decode cL_part 27 = .ok (.ldc 7, 2) := by decide +kernel
theorem dL_part_29 : decode cL_part 29 = .ok (.iand, 1) := by decide +kernel
theorem dL_part_30 : decode cL_part 30 = .ok (.iload_n 2, 1) := by decide +kernel
theorem dL_part_31 : decode cL_part 31 = .ok (.irem, 1) := by decide +kernel
theorem dL_part_32 : decode cL_part 32 = .ok (.ireturn, 1) := by decide +kernel
set_option maxRecDepth 20000 in
theorem ggL_rates_X1_setRates : GoodIn wsL_rates wsX1_setRates := goodIn_ca (goodIn_r _ [5, 6, 7, 8, 9, 4, 10, 11, 12, 13, 14, 15, 16, 17] (by decide +kernel) (by decide +kernel)) (goodIn_sub (fun _ h => List.mem_cons_of_mem _ (List.mem_append_right _ h)) (by decide +kernel))
set_option maxRecDepth 20000 in
theorem gL_rates_X1_setRates : GoodIn wsL_rates (wsV RL 8 RX1 yX1_setRates wsX1_setRates) := goodIn_app (goodIn_of _ (by decide +kernel)) ggL_rates_X1_setRates
theorem dL_rates_0 : decode cL_rates 0 = .ok (.aload_n 0, 1) := by decide +kernel
theorem dL_rates_1 : decode cL_rates 1 = .ok (.iload_n 1, 1) := by decide +kernel
theorem dL_rates_2 : decode cL_rates 2 = .ok (.iload_n 2, 1) := by decide +kernel
theorem dL_rates_3 : decode cL_rates 3 = .ok (.invokevirtual 8, 3) := by decide +kernel
theorem dL_rates_6 : decode cL_rates 6 = .ok (.iconst 0, 1) := by decide +kernel
theorem dL_rates_7 : decode cL_rates 7 = .ok (.ireturn, 1) := by decide +kernel
set_option maxRecDepth 20000 in
theorem ggL_does_L_rates : GoodIn wsL_does wsL_rates := goodIn_ca (goodIn_r _ [7, 8, 9, 10, 11, 12, 13, 14, 15, 16, 17, 18, 19, 321, 322, 323, 324, 325] (by decide +kernel) (by decide +kernel)) (goodIn_sub (fun _ h => List.mem_cons_of_mem _ (List.mem_append_left _ (List.mem_append_left _ (List.mem_append_right _ h)))) (by decide +kernel))
set_option maxRecDepth 20000 in
theorem gL_does_L_rates : GoodIn wsL_does (va_wsS RL 14 yL_rates wsL_rates) := goodIn_app (goodIn_of _ (by decide +kernel)) ggL_does_L_rates
set_option maxRecDepth 20000 in
theorem ggL_does_X1_start : GoodIn wsL_does wsX1_start := goodIn_ca (goodIn_ca (goodIn_r _ [23, 24, 25, 26, 27, 28, 29, 30, 31, 32, 11, 33, 34, 35, 36, 37, 38, 39, 40, 41, 42, 43, 44, 45, 46, 47, 48, 49, 50, 51, 52, 53, 54, 55, 56, 57, 58, 59, 60, 61, 62, 63, 64, 65, 66, 67, 68, 69, 70, 71, 72, 73, 74, 75, 76, 77, 78, 79, 80, 81, 82, 83, 84, 85, 86, 87, 88, 89, 90, 91, 92, 93, 94, 95, 96, 97, 98, 99, 100, 101, 102, 103, 104, 105, 106, 107, 108, 109, 110, 111, 112, 113, 114, 115, 116, 117, 118, 119, 120, 121, 122, 123, 124, 125, 126, 127, 128, 129, 130, 131, 132, 133, 134, 135, 136, 321, 322, 323, 324, 325, 326, 327, 328, 329, 330, 331, 332, 333, 334, 335, 336, 337, 338, 339] (by decide +kernel) (by decide +kernel)) (goodIn_sub (fun _ h => List.mem_cons_of_mem _ (List.mem_append_left _ (List.mem_append_right _ h))) (by decide +kernel))) (goodIn_sub (fun _ h => List.mem_cons_of_mem _ (List.mem_append_right _ h)) (by decide +kernel))
set_option maxRecDepth 20000 in
theorem gL_does_X1_start : GoodIn wsL_does (wsV RL 20 RX1 yX1_start wsX1_start) := goodIn_app (goodIn_of _ (by decide +kernel)) ggL_does_X1_start
set_option maxRecDepth 20000 in
theorem ggL_does_X1_book : GoodIn wsL_does wsX1_book := goodIn_ca (goodIn_ca (goodIn_r _ [140, 24, 25, 141, 142, 143, 11, 144, 145, 146, 147, 148, 34, 35, 26, 46, 36, 37, 38, 39, 40, 41, 47, 48, 49, 50, 51, 52, 53, 54, 55, 56, 57, 58, 59, 60, 61, 62, 63, 149, 150, 151, 152, 153, 154, 69, 70, 71, 29, 72, 73, 155, 156, 157, 158, 159, 160, 161, 162, 163, 164, 165, 166, 167, 168, 169, 170, 171, 172, 173, 174, 175, 176, 177, 178, 179, 180, 181, 182, 321, 322, 323, 324, 325, 337, 338, 339, 326, 327, 328, 329, 330, 331, 332, 333, 334, 335, 336] (by decide +kernel) (by decide +kernel)) (goodIn_sub (fun _ h => List.mem_cons_of_mem _ (List.mem_append_left _ (List.mem_append_right _ h))) (by decide +kernel))) (goodIn_sub (fun _ h => List.mem_cons_of_mem _ (List.mem_append_right _ h)) (by decide +kernel))
set_option maxRecDepth 20000 in
theorem gL_does_X1_book : GoodIn wsL_does (wsV RL 24 RX1 yX1_book wsX1_book) := goodIn_app (goodIn_of _ (by decide +kernel)) ggL_does_X1_book
set_option maxRecDepth 20000 in
theorem ggL_does_X1_cancel : GoodIn wsL_does wsX1_cancel := goodIn_ca (goodIn_ca (goodIn_r _ [186, 24, 25, 141, 142, 143, 11, 144, 145, 146, 147, 148, 34, 35, 26, 46, 36, 37, 38, 39, 40, 41, 47, 48, 49, 50, 51, 52, 53, 54, 55, 56, 57, 58, 59, 60, 61, 62, 63, 149, 150, 151, 152, 153, 154, 69, 70, 71, 29, 72, 73, 155, 156, 157, 158, 159, 160, 161, 162, 187, 188, 189, 190, 191, 82, 321, 322, 323, 324, 325, 337, 338, 339, 326, 327, 328, 329, 330, 331, 332, 333, 334, 335, 336] (by decide +kernel) (by decide +kernel)) (goodIn_sub (fun _ h => List.mem_cons_of_mem _ (List.mem_append_left _ (List.mem_append_right _ h))) (by decide +kernel))) (goodIn_sub (fun _ h => List.mem_cons_of_mem _ (List.mem_append_right _ h)) (by decide +kernel))
set_option maxRecDepth 20000 in
theorem gL_does_X1_cancel : GoodIn wsL_does (wsV RL 28 RX1 yX1_cancel wsX1_cancel) := goodIn_app (goodIn_of _ (by decide +kernel)) ggL_does_X1_cancel
set_option maxRecDepth 20000 in
theorem ggL_does_X1_board : GoodIn wsL_does wsX1_board := goodIn_ca (goodIn_ca (goodIn_r _ [195, 24, 25, 141, 142, 143, 11, 144, 145, 146, 147, 148, 34, 35, 26, 46, 36, 37, 38, 39, 40, 41, 47, 48, 49, 50, 51, 52, 53, 54, 55, 56, 57, 58, 59, 60, 61, 62, 63, 149, 150, 151, 152, 153, 154, 69, 70, 71, 29, 72, 73, 163, 164, 165, 166, 167, 160, 161, 162, 155, 156, 157, 158, 159, 168, 169, 170, 171, 172, 173, 174, 175, 176, 177, 178, 196, 197, 198, 199, 321, 322, 323, 324, 325, 337, 338, 339, 326, 327, 328, 329, 330, 331, 332, 333, 334, 335, 336] (by decide +kernel) (by decide +kernel)) (goodIn_sub (fun _ h => List.mem_cons_of_mem _ (List.mem_append_left _ (List.mem_append_right _ h))) (by decide +kernel))) (goodIn_sub (fun _ h => List.mem_cons_of_mem _ (List.mem_append_right _ h)) (by decide +kernel))
set_option maxRecDepth 20000 in
theorem gL_does_X1_board : GoodIn wsL_does (wsV RL 31 RX1 yX1_board wsX1_board) := goodIn_app (goodIn_of _ (by decide +kernel)) ggL_does_X1_board
set_option maxRecDepth 20000 in
theorem ggL_does_X1_leave : GoodIn wsL_does wsX1_leave := goodIn_ca (goodIn_ca (goodIn_r _ [203, 24, 25, 141, 142, 143, 11, 144, 145, 146, 147, 148, 34, 35, 26, 46, 36, 37, 38, 39, 40, 41, 47, 48, 49, 50, 51, 52, 53, 54, 55, 56, 57, 58, 59, 60, 61, 62, 63, 149, 150, 151, 152, 153, 154, 69, 70, 71, 29, 72, 73, 163, 164, 165, 166, 167, 160, 161, 162, 204, 205, 206, 207, 208, 209, 210, 211, 82, 321, 322, 323, 324, 325, 337, 338, 339, 326, 327, 328, 329, 330, 331, 332, 333, 334, 335, 336] (by decide +kernel) (by decide +kernel)) (goodIn_sub (fun _ h => List.mem_cons_of_mem _ (List.mem_append_left _ (List.mem_append_right _ h))) (by decide +kernel))) (goodIn_sub (fun _ h => List.mem_cons_of_mem _ (List.mem_append_right _ h)) (by decide +kernel))
set_option maxRecDepth 20000 in
theorem gL_does_X1_leave : GoodIn wsL_does (wsV RL 34 RX1 yX1_leave wsX1_leave) := goodIn_app (goodIn_of _ (by decide +kernel)) ggL_does_X1_leave
set_option maxRecDepth 20000 in
theorem ggL_does_X1_drive : GoodIn wsL_does wsX1_drive := goodIn_ca (goodIn_ca (goodIn_ca (goodIn_r _ [215, 13, 14, 145, 146, 147, 11, 148, 34, 35, 26, 46, 36, 37, 38, 39, 40, 41, 47, 48, 49, 50, 51, 52, 53, 54, 55, 56, 57, 58, 59, 60, 61, 62, 63, 15, 16, 17, 18, 19, 152, 153, 154, 24, 25, 69, 70, 71, 29, 72, 73, 216, 217, 218, 219, 191, 167, 82, 172, 173, 174, 175, 176, 177, 178, 160, 161, 162, 321, 322, 323, 324, 325, 337, 338, 339, 326, 327, 328, 329, 330, 331, 332, 333, 334, 335, 336] (by decide +kernel) (by decide +kernel)) (goodIn_sub (fun _ h => List.mem_cons_of_mem _ (List.mem_append_right _ h)) (by decide +kernel))) (goodIn_sub (fun _ h => List.mem_cons_of_mem _ (List.mem_append_left _ (List.mem_append_left _ (List.mem_append_right _ h)))) (by decide +kernel))) (goodIn_sub (fun _ h => List.mem_cons_of_mem _ (List.mem_append_left _ (List.mem_append_right _ h))) (by decide +kernel))
set_option maxRecDepth 20000 in
theorem gL_does_X1_drive : GoodIn wsL_does (wsV RL 37 RX1 yX1_drive wsX1_drive) := goodIn_app (goodIn_of _ (by decide +kernel)) ggL_does_X1_drive
set_option maxRecDepth 20000 in
theorem ggL_does_X1_finish : GoodIn wsL_does wsX1_finish := goodIn_ca (goodIn_ca (goodIn_r _ [223, 145, 146, 147, 11, 148, 34, 35, 26, 46, 36, 37, 38, 39, 40, 41, 47, 48, 49, 50, 51, 52, 53, 54, 55, 56, 57, 58, 59, 60, 61, 62, 63, 152, 153, 154, 24, 25, 69, 70, 71, 29, 72, 73, 224, 225, 226, 227, 159, 82, 167, 160, 161, 162, 228, 229, 230, 231, 321, 322, 323, 324, 325, 337, 338, 339, 326, 327, 328, 329, 330, 331, 332, 333, 334, 335, 336] (by decide +kernel) (by decide +kernel)) (goodIn_sub (fun _ h => List.mem_cons_of_mem _ (List.mem_append_right _ h)) (by decide +kernel))) (goodIn_sub (fun _ h => List.mem_cons_of_mem _ (List.mem_append_left _ (List.mem_append_right _ h))) (by decide +kernel))
set_option maxRecDepth 20000 in
theorem gL_does_X1_finish : GoodIn wsL_does (wsV RL 41 RX1 yX1_finish wsX1_finish) := goodIn_app (goodIn_of _ (by decide +kernel)) ggL_does_X1_finish
set_option maxRecDepth 20000 in
theorem ggL_does_X1_dispute : GoodIn wsL_does wsX1_dispute := goodIn_ca (goodIn_ca (goodIn_r _ [235, 24, 25, 145, 146, 147, 11, 148, 34, 35, 26, 46, 36, 37, 38, 39, 40, 41, 47, 48, 49, 50, 51, 52, 53, 54, 55, 56, 57, 58, 59, 60, 61, 62, 63, 149, 150, 151, 69, 70, 71, 29, 72, 73, 208, 209, 210, 211, 82, 236, 237, 238, 239, 240, 160, 161, 162, 241, 242, 243, 244, 321, 322, 323, 324, 325, 337, 338, 339, 326, 327, 328, 329, 330, 331, 332, 333, 334, 335, 336] (by decide +kernel) (by decide +kernel)) (goodIn_sub (fun _ h => List.mem_cons_of_mem _ (List.mem_append_left _ (List.mem_append_right _ h))) (by decide +kernel))) (goodIn_sub (fun _ h => List.mem_cons_of_mem _ (List.mem_append_right _ h)) (by decide +kernel))
set_option maxRecDepth 20000 in
theorem gL_does_X1_dispute : GoodIn wsL_does (wsV RL 44 RX1 yX1_dispute wsX1_dispute) := goodIn_app (goodIn_of _ (by decide +kernel)) ggL_does_X1_dispute
set_option maxRecDepth 20000 in
theorem ggL_does_X1_settle : GoodIn wsL_does wsX1_settle := goodIn_ca (goodIn_ca (goodIn_ca (goodIn_r _ [248, 24, 25, 145, 146, 147, 11, 148, 34, 35, 26, 46, 36, 37, 38, 39, 40, 41, 47, 48, 49, 50, 51, 52, 53, 54, 55, 56, 57, 58, 59, 60, 61, 62, 63, 149, 150, 151, 15, 16, 17, 18, 19, 236, 237, 238, 29, 239, 240, 160, 161, 162, 249, 250, 251, 252, 253, 254, 255, 256, 257, 258, 83, 82, 259, 321, 322, 323, 324, 325, 337, 338, 339, 326, 327, 328, 329, 330, 331, 332, 333, 334, 335, 336] (by decide +kernel) (by decide +kernel)) (goodIn_sub (fun _ h => List.mem_cons_of_mem _ (List.mem_append_left _ (List.mem_append_right _ h))) (by decide +kernel))) (goodIn_sub (fun _ h => List.mem_cons_of_mem _ (List.mem_append_right _ h)) (by decide +kernel))) (goodIn_sub (fun _ h => List.mem_cons_of_mem _ (List.mem_append_left _ (List.mem_append_left _ (List.mem_append_right _ h)))) (by decide +kernel))
set_option maxRecDepth 20000 in
theorem gL_does_X1_settle : GoodIn wsL_does (wsV RL 47 RX1 yX1_settle wsX1_settle) := goodIn_app (goodIn_of _ (by decide +kernel)) ggL_does_X1_settle
set_option maxRecDepth 20000 in
theorem ggL_does_X1_closeWeek : GoodIn wsL_does wsX1_closeWeek := goodIn_ca (goodIn_r _ [263, 24, 25, 30, 264, 265, 266, 267, 11, 268, 26, 46, 36, 37, 38, 39, 40, 41, 47, 48, 49, 50, 51, 52, 53, 54, 55, 56, 57, 58, 59, 60, 61, 62, 63, 69, 70, 71, 29, 72, 73, 269, 270, 271, 272, 273, 274, 275, 276, 277, 278, 279, 280, 281, 282, 283, 284, 285, 286, 287, 288, 68, 80, 289, 290, 291, 292, 293, 294, 295, 296, 82, 258, 83, 160, 161, 162, 297, 298, 299, 300, 301, 104, 105, 106, 302, 303, 304, 305, 306, 307, 308, 309, 310, 311, 312, 313, 191, 314, 315, 316, 317, 318, 319, 320, 321, 322, 323, 324, 325, 337, 338, 339, 326, 327, 328, 329, 330, 331, 332, 333, 334, 335, 336] (by decide +kernel) (by decide +kernel)) (goodIn_sub (fun _ h => List.mem_cons_of_mem _ (List.mem_append_left _ (List.mem_append_right _ h))) (by decide +kernel))
set_option maxRecDepth 20000 in
theorem gL_does_X1_closeWeek : GoodIn wsL_does (wsV RL 51 RX1 yX1_closeWeek wsX1_closeWeek) := goodIn_app (goodIn_of _ (by decide +kernel)) ggL_does_X1_closeWeek
theorem dL_does_0 : decode cL_does 0 = .ok (.iload_n 1, 1) := by decide +kernel
theorem dL_does_1 : decode cL_does 1 = .ok (.ifCond .ne 12, 3) := by decide +kernel
theorem dL_does_4 : decode cL_does 4 = .ok (.aload_n 0, 1) := by decide +kernel
theorem dL_does_5 : decode cL_does 5 = .ok (.iload_n 2, 1) := by decide +kernel
theorem dL_does_6 : decode cL_does 6 = .ok (.iload_n 3, 1) := by decide +kernel
theorem dL_does_7 : decode cL_does 7 = .ok (.invokestatic 14, 3) := by decide +kernel
theorem dL_does_10 : decode cL_does 10 = .ok (.goto 141, 3) := by decide +kernel
theorem dL_does_13 : decode cL_does 13 = .ok (.iload_n 1, 1) := by decide +kernel
theorem dL_does_14 : decode cL_does 14 = .ok (.iconst 1, 1) := by decide +kernel
theorem dL_does_15 : decode cL_does 15 = .ok (.if_icmp .ne 11, 3) := by decide +kernel
theorem dL_does_18 : decode cL_does 18 = .ok (.aload_n 0, 1) := by decide +kernel
theorem dL_does_19 : decode cL_does 19 = .ok (.iload_n 2, 1) := by decide +kernel
theorem dL_does_20 : decode cL_does 20 = .ok (.invokevirtual 20, 3) := by decide +kernel
theorem dL_does_23 : decode cL_does 23 = .ok (.goto 128, 3) := by decide +kernel
theorem dL_does_26 : decode cL_does 26 = .ok (.iload_n 1, 1) := by decide +kernel
theorem dL_does_27 : decode cL_does 27 = .ok (.iconst 2, 1) := by decide +kernel
theorem dL_does_28 : decode cL_does 28 = .ok (.if_icmp .ne 12, 3) := by decide +kernel
theorem dL_does_31 : decode cL_does 31 = .ok (.aload_n 0, 1) := by decide +kernel
theorem dL_does_32 : decode cL_does 32 = .ok (.iload_n 2, 1) := by decide +kernel
theorem dL_does_33 : decode cL_does 33 = .ok (.iload_n 3, 1) := by decide +kernel
theorem dL_does_34 : decode cL_does 34 = .ok (.invokevirtual 24, 3) := by decide +kernel
theorem dL_does_37 : decode cL_does 37 = .ok (.goto 114, 3) := by decide +kernel
theorem dL_does_40 : decode cL_does 40 = .ok (.iload_n 1, 1) := by decide +kernel
theorem dL_does_41 : decode cL_does 41 = .ok (.iconst 3, 1) := by decide +kernel
theorem dL_does_42 : decode cL_does 42 = .ok (.if_icmp .ne 12, 3) := by decide +kernel
theorem dL_does_45 : decode cL_does 45 = .ok (.aload_n 0, 1) := by decide +kernel
theorem dL_does_46 : decode cL_does 46 = .ok (.iload_n 2, 1) := by decide +kernel
theorem dL_does_47 : decode cL_does 47 = .ok (.iload_n 3, 1) := by decide +kernel
theorem dL_does_48 : decode cL_does 48 = .ok (.invokevirtual 28, 3) := by decide +kernel
theorem dL_does_51 : decode cL_does 51 = .ok (.goto 100, 3) := by decide +kernel
theorem dL_does_54 : decode cL_does 54 = .ok (.iload_n 1, 1) := by decide +kernel
theorem dL_does_55 : decode cL_does 55 = .ok (.iconst 4, 1) := by decide +kernel
theorem dL_does_56 : decode cL_does 56 = .ok (.if_icmp .ne 12, 3) := by decide +kernel
theorem dL_does_59 : decode cL_does 59 = .ok (.aload_n 0, 1) := by decide +kernel
theorem dL_does_60 : decode cL_does 60 = .ok (.iload_n 2, 1) := by decide +kernel
theorem dL_does_61 : decode cL_does 61 = .ok (.iload_n 3, 1) := by decide +kernel
theorem dL_does_62 : decode cL_does 62 = .ok (.invokevirtual 31, 3) := by decide +kernel
theorem dL_does_65 : decode cL_does 65 = .ok (.goto 86, 3) := by decide +kernel
theorem dL_does_68 : decode cL_does 68 = .ok (.iload_n 1, 1) := by decide +kernel
theorem dL_does_69 : decode cL_does 69 = .ok (.iconst 5, 1) := by decide +kernel
theorem dL_does_70 : decode cL_does 70 = .ok (.if_icmp .ne 12, 3) := by decide +kernel
theorem dL_does_73 : decode cL_does 73 = .ok (.aload_n 0, 1) := by decide +kernel
theorem dL_does_74 : decode cL_does 74 = .ok (.iload_n 2, 1) := by decide +kernel
theorem dL_does_75 : decode cL_does 75 = .ok (.iload_n 3, 1) := by decide +kernel
theorem dL_does_76 : decode cL_does 76 = .ok (.invokevirtual 34, 3) := by decide +kernel
theorem dL_does_79 : decode cL_does 79 = .ok (.goto 72, 3) := by decide +kernel
theorem dL_does_82 : decode cL_does 82 = .ok (.iload_n 1, 1) := by decide +kernel
theorem dL_does_83 : decode cL_does 83 = .ok (.bipush 6, 2) := by decide +kernel
theorem dL_does_85 : decode cL_does 85 = .ok (.if_icmp .ne 14, 3) := by decide +kernel
theorem dL_does_88 : decode cL_does 88 = .ok (.aload_n 0, 1) := by decide +kernel
theorem dL_does_89 : decode cL_does 89 = .ok (.iload_n 2, 1) := by decide +kernel
theorem dL_does_90 : decode cL_does 90 = .ok (.iload_n 3, 1) := by decide +kernel
theorem dL_does_91 : decode cL_does 91 = .ok (.iload 4, 2) := by decide +kernel
theorem dL_does_93 : decode cL_does 93 = .ok (.invokevirtual 37, 3) := by decide +kernel
theorem dL_does_96 : decode cL_does 96 = .ok (.goto 55, 3) := by decide +kernel
theorem dL_does_99 : decode cL_does 99 = .ok (.iload_n 1, 1) := by decide +kernel
theorem dL_does_100 : decode cL_does 100 = .ok (.bipush 7, 2) := by decide +kernel
theorem dL_does_102 : decode cL_does 102 = .ok (.if_icmp .ne 11, 3) := by decide +kernel
theorem dL_does_105 : decode cL_does 105 = .ok (.aload_n 0, 1) := by decide +kernel
theorem dL_does_106 : decode cL_does 106 = .ok (.iload_n 2, 1) := by decide +kernel
theorem dL_does_107 : decode cL_does 107 = .ok (.invokevirtual 41, 3) := by decide +kernel
theorem dL_does_110 : decode cL_does 110 = .ok (.goto 41, 3) := by decide +kernel
theorem dL_does_113 : decode cL_does 113 = .ok (.iload_n 1, 1) := by decide +kernel
theorem dL_does_114 : decode cL_does 114 = .ok (.bipush 8, 2) := by decide +kernel
theorem dL_does_116 : decode cL_does 116 = .ok (.if_icmp .ne 12, 3) := by decide +kernel
theorem dL_does_119 : decode cL_does 119 = .ok (.aload_n 0, 1) := by decide +kernel
theorem dL_does_120 : decode cL_does 120 = .ok (.iload_n 2, 1) := by decide +kernel
theorem dL_does_121 : decode cL_does 121 = .ok (.iload_n 3, 1) := by decide +kernel
theorem dL_does_122 : decode cL_does 122 = .ok (.invokevirtual 44, 3) := by decide +kernel
theorem dL_does_125 : decode cL_does 125 = .ok (.goto 26, 3) := by decide +kernel
theorem dL_does_128 : decode cL_does 128 = .ok (.iload_n 1, 1) := by decide +kernel
theorem dL_does_129 : decode cL_does 129 = .ok (.bipush 9, 2) := by decide +kernel
theorem dL_does_131 : decode cL_does 131 = .ok (.if_icmp .ne 16, 3) := by decide +kernel
theorem dL_does_134 : decode cL_does 134 = .ok (.aload_n 0, 1) := by decide +kernel
theorem dL_does_135 : decode cL_does 135 = .ok (.iload_n 2, 1) := by decide +kernel
theorem dL_does_136 : decode cL_does 136 = .ok (.iload_n 3, 1) := by decide +kernel
theorem dL_does_137 : decode cL_does 137 = .ok (.iload 4, 2) := by decide +kernel
theorem dL_does_139 : decode cL_does 139 = .ok (.iload 5, 2) := by decide +kernel
theorem dL_does_141 : decode cL_does 141 = .ok (.invokevirtual 47, 3) := by decide +kernel
theorem dL_does_144 : decode cL_does 144 = .ok (.goto 7, 3) := by decide +kernel
theorem dL_does_147 : decode cL_does 147 = .ok (.aload_n 0, 1) := by decide +kernel
theorem dL_does_148 : decode cL_does 148 = .ok (.invokevirtual 51, 3) := by decide +kernel
theorem dL_does_151 : decode cL_does 151 = .ok (.ireturn, 1) := by decide +kernel
theorem dL_does_152 : decode cL_does 152 = .ok (.astore 6, 2) := by decide +kernel
theorem dL_does_154 : decode cL_does 154 = .ok (.bipush (-30), 2) := by decide +kernel
theorem dL_does_156 : decode cL_does 156 = .ok (.ireturn, 1) := by decide +kernel
theorem dL_does_157 : decode cL_does 157 = .ok (.astore 6, 2) := by decide +kernel
theorem dL_does_159 : decode cL_does 159 = .ok (.bipush (-20), 2) := by decide +kernel
theorem dL_does_161 : decode cL_does 161 = .ok (.ireturn, 1) := by decide +kernel
theorem dL_does_162 : decode cL_does 162 = .ok (.astore 6, 2) := by decide +kernel
theorem dL_does_164 : decode cL_does 164 = .ok (.bipush (-10), 2) := by decide +kernel
theorem dL_does_166 : decode cL_does 166 = .ok (.ireturn, 1) := by decide +kernel
set_option maxRecDepth 20000 in
theorem ggL_asks_X1_aboard : GoodIn wsL_asks wsX1_aboard := goodIn_ca (goodIn_r _ [9, 10, 11, 12, 8, 13, 14, 15, 16, 17, 18, 19, 20, 21, 22, 23, 24, 25, 26, 27, 28, 29, 30, 31, 32, 33, 34, 35, 36, 37, 38, 39, 40, 41, 42, 43, 44, 45, 46, 173, 174, 175, 176, 177, 178, 179, 180, 181, 182, 183, 184, 185, 186, 187, 188, 189, 190, 191] (by decide +kernel) (by decide +kernel)) (goodIn_sub (fun _ h => List.mem_cons_of_mem _ (List.mem_append_left _ (List.mem_append_right _ h))) (by decide +kernel))
set_option maxRecDepth 20000 in
theorem gL_asks_X1_aboard : GoodIn wsL_asks (wsV RL 61 RX1 yX1_aboard wsX1_aboard) := goodIn_app (goodIn_of _ (by decide +kernel)) ggL_asks_X1_aboard
set_option maxRecDepth 20000 in
theorem ggL_asks_X1_charge : GoodIn wsL_asks wsX1_charge := goodIn_ca (goodIn_r _ [50, 10, 11, 12, 8, 13, 14, 15, 16, 17, 18, 19, 20, 21, 22, 23, 24, 25, 26, 27, 28, 29, 30, 31, 32, 33, 34, 35, 36, 37, 38, 39, 40, 51, 52, 53, 54, 55, 56, 44, 57, 58, 173, 174, 175, 176, 177, 178, 179, 180, 181, 182, 183, 184, 185, 186, 187, 188, 189, 190, 191] (by decide +kernel) (by decide +kernel)) (goodIn_sub (fun _ h => List.mem_cons_of_mem _ (List.mem_append_left _ (List.mem_append_right _ h))) (by decide +kernel))
set_option maxRecDepth 20000 in
theorem gL_asks_X1_charge : GoodIn wsL_asks (wsV RL 64 RX1 yX1_charge wsX1_charge) := goodIn_app (goodIn_of _ (by decide +kernel)) ggL_asks_X1_charge
set_option maxRecDepth 20000 in
theorem ggL_asks_X1_isVoid : GoodIn wsL_asks wsX1_isVoid := goodIn_ca (goodIn_r _ [62, 10, 11, 12, 8, 13, 14, 15, 16, 17, 18, 19, 20, 21, 22, 23, 24, 25, 26, 27, 28, 29, 30, 31, 32, 33, 34, 35, 36, 37, 38, 39, 40, 63, 64, 65, 44, 66, 58, 67, 68, 69, 70, 71, 72, 173, 174, 175, 176, 177, 178, 179, 180, 181, 182, 183, 184, 185, 186, 187, 188, 189, 190, 191] (by decide +kernel) (by decide +kernel)) (goodIn_sub (fun _ h => List.mem_cons_of_mem _ (List.mem_append_left _ (List.mem_append_right _ h))) (by decide +kernel))
set_option maxRecDepth 20000 in
theorem gL_asks_X1_isVoid : GoodIn wsL_asks (wsV RL 67 RX1 yX1_isVoid wsX1_isVoid) := goodIn_app (goodIn_of _ (by decide +kernel)) ggL_asks_X1_isVoid
set_option maxRecDepth 20000 in
theorem ggL_asks_X1_earnings : GoodIn wsL_asks wsX1_earnings := goodIn_ca (goodIn_ca (goodIn_r _ [76, 77, 78, 79, 8, 80, 14, 15, 81, 82, 83, 84, 85, 86, 87, 88, 89, 16, 17, 18, 19, 20, 21, 22, 23, 24, 25, 26, 27, 28, 29, 30, 31, 32, 33, 34, 35, 36, 37, 38, 39, 40, 90, 91, 92, 44, 93, 69, 94, 95, 96, 97, 98, 99, 100, 101, 102, 103, 58, 67, 68, 70, 71, 72, 173, 174, 175, 176, 177, 178, 179, 180, 181, 182, 183, 184, 185, 186, 187, 188, 189, 190, 191] (by decide +kernel) (by decide +kernel)) (goodIn_sub (fun _ h => List.mem_cons_of_mem _ (List.mem_append_left _ (List.mem_append_right _ h))) (by decide +kernel))) (goodIn_sub (fun _ h => List.mem_cons_of_mem _ (List.mem_append_right _ h)) (by decide +kernel))
set_option maxRecDepth 20000 in
theorem gL_asks_X1_earnings : GoodIn wsL_asks (wsV RL 71 RX1 yX1_earnings wsX1_earnings) := goodIn_app (goodIn_of _ (by decide +kernel)) ggL_asks_X1_earnings
set_option maxRecDepth 20000 in
theorem ggL_asks_X1_topUp : GoodIn wsL_asks wsX1_topUp := goodIn_ca (goodIn_ca (goodIn_r _ [107, 77, 78, 79, 8, 80, 14, 15, 81, 82, 83, 84, 85, 86, 87, 88, 89, 16, 17, 18, 19, 20, 21, 22, 23, 24, 25, 26, 27, 28, 29, 30, 31, 32, 33, 34, 35, 36, 37, 38, 39, 40, 90, 91, 92, 44, 93, 69, 94, 95, 96, 97, 98, 99, 100, 101, 102, 103, 58, 67, 68, 70, 71, 72, 108, 109, 110, 111, 112, 113, 114, 115, 116, 117, 118, 119, 63, 64, 65, 66, 120, 121, 122, 123, 124, 173, 174, 175, 176, 177, 178, 179, 180, 181, 182, 183, 184, 185, 186, 187, 188, 189, 190, 191] (by decide +kernel) (by decide +kernel)) (goodIn_sub (fun _ h => List.mem_cons_of_mem _ (List.mem_append_left _ (List.mem_append_right _ h))) (by decide +kernel))) (goodIn_sub (fun _ h => List.mem_cons_of_mem _ (List.mem_append_right _ h)) (by decide +kernel))
set_option maxRecDepth 20000 in
theorem gL_asks_X1_topUp : GoodIn wsL_asks (wsV RL 74 RX1 yX1_topUp wsX1_topUp) := goodIn_app (goodIn_of _ (by decide +kernel)) ggL_asks_X1_topUp
set_option maxRecDepth 20000 in
theorem ggL_asks_X1_bonus : GoodIn wsL_asks wsX1_bonus := goodIn_ca (goodIn_ca (goodIn_r _ [128, 77, 78, 79, 8, 80, 14, 15, 81, 82, 83, 84, 85, 129, 130, 131, 132, 16, 17, 18, 19, 20, 21, 22, 23, 24, 25, 26, 27, 28, 29, 30, 31, 32, 33, 34, 35, 36, 37, 38, 39, 40, 90, 91, 92, 44, 93, 69, 94, 95, 63, 64, 65, 66, 58, 67, 68, 70, 71, 72, 133, 134, 135, 173, 174, 175, 176, 177, 178, 179, 180, 181, 182, 183, 184, 185, 186, 187, 188, 189, 190, 191] (by decide +kernel) (by decide +kernel)) (goodIn_sub (fun _ h => List.mem_cons_of_mem _ (List.mem_append_left _ (List.mem_append_right _ h))) (by decide +kernel))) (goodIn_sub (fun _ h => List.mem_cons_of_mem _ (List.mem_append_right _ h)) (by decide +kernel))
set_option maxRecDepth 20000 in
theorem gL_asks_X1_bonus : GoodIn wsL_asks (wsV RL 77 RX1 yX1_bonus wsX1_bonus) := goodIn_app (goodIn_of _ (by decide +kernel)) ggL_asks_X1_bonus
set_option maxRecDepth 20000 in
theorem ggL_asks_X1_pay : GoodIn wsL_asks wsX1_pay := goodIn_ca (goodIn_ca (goodIn_r _ [139, 77, 78, 79, 8, 80, 14, 15, 81, 82, 83, 84, 85, 140, 141, 142, 143, 86, 87, 88, 89, 16, 17, 18, 19, 20, 21, 22, 23, 24, 25, 26, 27, 28, 29, 30, 31, 32, 33, 34, 35, 36, 37, 38, 39, 40, 90, 91, 92, 44, 93, 69, 94, 95, 96, 97, 98, 99, 100, 101, 102, 103, 58, 67, 68, 70, 71, 72, 108, 109, 110, 111, 112, 113, 114, 115, 116, 117, 118, 119, 63, 64, 65, 66, 120, 121, 122, 123, 124, 129, 130, 131, 132, 133, 134, 135, 173, 174, 175, 176, 177, 178, 179, 180, 181, 182, 183, 184, 185, 186, 187, 188, 189, 190, 191] (by decide +kernel) (by decide +kernel)) (goodIn_sub (fun _ h => List.mem_cons_of_mem _ (List.mem_append_left _ (List.mem_append_right _ h))) (by decide +kernel))) (goodIn_sub (fun _ h => List.mem_cons_of_mem _ (List.mem_append_right _ h)) (by decide +kernel))
set_option maxRecDepth 20000 in
theorem gL_asks_X1_pay : GoodIn wsL_asks (wsV RL 80 RX1 yX1_pay wsX1_pay) := goodIn_app (goodIn_of _ (by decide +kernel)) ggL_asks_X1_pay
set_option maxRecDepth 20000 in
theorem ggL_asks_X1_balance : GoodIn wsL_asks wsX1_balance := goodIn_ca (goodIn_r _ [147, 78, 79, 8, 80, 14, 15, 148, 149, 150, 151, 77, 152, 153, 154, 155, 156, 140, 141, 142, 143, 86, 87, 88, 89, 16, 17, 18, 19, 20, 21, 22, 23, 24, 25, 26, 27, 28, 29, 30, 31, 32, 33, 34, 35, 36, 37, 38, 39, 40, 90, 91, 92, 44, 93, 69, 94, 95, 96, 97, 98, 99, 100, 101, 102, 103, 58, 67, 68, 70, 71, 72, 108, 109, 110, 111, 112, 113, 114, 115, 116, 117, 118, 119, 63, 64, 65, 66, 120, 121, 122, 123, 124, 129, 130, 131, 132, 133, 134, 135, 173, 174, 175, 176, 177, 178, 179, 180, 181, 182, 183, 184, 185, 186, 187, 188, 189, 190, 191] (by decide +kernel) (by decide +kernel)) (goodIn_sub (fun _ h => List.mem_cons_of_mem _ (List.mem_append_left _ (List.mem_append_right _ h))) (by decide +kernel))
set_option maxRecDepth 20000 in
theorem gL_asks_X1_balance : GoodIn wsL_asks (wsV RL 83 RX1 yX1_balance wsX1_balance) := goodIn_app (goodIn_of _ (by decide +kernel)) ggL_asks_X1_balance
set_option maxRecDepth 20000 in
theorem ggL_asks_X1_paid : GoodIn wsL_asks wsX1_paid := goodIn_ca (goodIn_r _ [160, 152, 78, 79, 8, 80, 14, 15, 173, 174, 175, 176, 177] (by decide +kernel) (by decide +kernel)) (goodIn_sub (fun _ h => List.mem_cons_of_mem _ (List.mem_append_left _ (List.mem_append_right _ h))) (by decide +kernel))
set_option maxRecDepth 20000 in
theorem gL_asks_X1_paid : GoodIn wsL_asks (wsV RL 86 RX1 yX1_paid wsX1_paid) := goodIn_app (goodIn_of _ (by decide +kernel)) ggL_asks_X1_paid
set_option maxRecDepth 20000 in
theorem ggL_asks_X1_spent : GoodIn wsL_asks wsX1_spent := goodIn_ca (goodIn_r _ [164, 16, 17, 51, 52, 8, 53, 14, 15, 18, 19, 20, 21, 22, 23, 24, 25, 26, 27, 28, 29, 30, 31, 32, 33, 34, 35, 36, 37, 38, 39, 40, 165, 166, 167, 44, 168, 69, 54, 55, 56, 57, 58, 169, 170, 171, 172, 68, 173, 174, 175, 176, 177, 178, 179, 180, 181, 182, 183, 184, 185, 186, 187, 188, 189, 190, 191] (by decide +kernel) (by decide +kernel)) (goodIn_sub (fun _ h => List.mem_cons_of_mem _ (List.mem_append_left _ (List.mem_append_right _ h))) (by decide +kernel))
set_option maxRecDepth 20000 in
theorem gL_asks_X1_spent : GoodIn wsL_asks (wsV RL 89 RX1 yX1_spent wsX1_spent) := goodIn_app (goodIn_of _ (by decide +kernel)) ggL_asks_X1_spent
theorem dL_asks_0 : decode cL_asks 0 = .ok (.iload_n 1, 1) := by decide +kernel
theorem dL_asks_1 : decode cL_asks 1 = .ok (.ifCond .ne 11, 3) := by decide +kernel
theorem dL_asks_4 : decode cL_asks 4 = .ok (.aload_n 0, 1) := by decide +kernel
theorem dL_asks_5 : decode cL_asks 5 = .ok (.iload_n 2, 1) := by decide +kernel
theorem dL_asks_6 : decode cL_asks 6 = .ok (.invokevirtual 61, 3) := by decide +kernel
theorem dL_asks_9 : decode cL_asks 9 = .ok (.goto 128, 3) := by decide +kernel
theorem dL_asks_12 : decode cL_asks 12 = .ok (.iload_n 1, 1) := by decide +kernel
theorem dL_asks_13 : decode cL_asks 13 = .ok (.iconst 1, 1) := by decide +kernel
theorem dL_asks_14 : decode cL_asks 14 = .ok (.if_icmp .ne 12, 3) := by decide +kernel
theorem dL_asks_17 : decode cL_asks 17 = .ok (.aload_n 0, 1) := by decide +kernel
theorem dL_asks_18 : decode cL_asks 18 = .ok (.iload_n 2, 1) := by decide +kernel
theorem dL_asks_19 : decode cL_asks 19 = .ok (.iload_n 3, 1) := by decide +kernel
theorem dL_asks_20 : decode cL_asks 20 = .ok (.invokevirtual 64, 3) := by decide +kernel
theorem dL_asks_23 : decode cL_asks 23 = .ok (.goto 114, 3) := by decide +kernel
theorem dL_asks_26 : decode cL_asks 26 = .ok (.iload_n 1, 1) := by decide +kernel
theorem dL_asks_27 : decode cL_asks 27 = .ok (.iconst 2, 1) := by decide +kernel
theorem dL_asks_28 : decode cL_asks 28 = .ok (.if_icmp .ne 19, 3) := by decide +kernel
theorem dL_asks_31 : decode cL_asks 31 = .ok (.aload_n 0, 1) := by decide +kernel
theorem dL_asks_32 : decode cL_asks 32 = .ok (.iload_n 2, 1) := by decide +kernel
theorem dL_asks_33 : decode cL_asks 33 = .ok (.invokevirtual 67, 3) := by decide +kernel
theorem dL_asks_36 : decode cL_asks 36 = .ok (.ifCond .eq 7, 3) := by decide +kernel
theorem dL_asks_39 : decode cL_asks 39 = .ok (.iconst 1, 1) := by decide +kernel
theorem dL_asks_40 : decode cL_asks 40 = .ok (.goto 97, 3) := by decide +kernel
theorem dL_asks_43 : decode cL_asks 43 = .ok (.iconst 0, 1) := by decide +kernel
theorem dL_asks_44 : decode cL_asks 44 = .ok (.goto 93, 3) := by decide +kernel
theorem dL_asks_47 : decode cL_asks 47 = .ok (.iload_n 1, 1) := by decide +kernel
theorem dL_asks_48 : decode cL_asks 48 = .ok (.iconst 3, 1) := by decide +kernel
theorem dL_asks_49 : decode cL_asks 49 = .ok (.if_icmp .ne 12, 3) := by decide +kernel
theorem dL_asks_52 : decode cL_asks 52 = .ok (.aload_n 0, 1) := by decide +kernel
theorem dL_asks_53 : decode cL_asks 53 = .ok (.iload_n 2, 1) := by decide +kernel
theorem dL_asks_54 : decode cL_asks 54 = .ok (.iload_n 3, 1) := by decide +kernel
theorem dL_asks_55 : decode cL_asks 55 = .ok (.invokevirtual 71, 3) := by decide +kernel
theorem dL_asks_58 : decode cL_asks 58 = .ok (.goto 79, 3) := by decide +kernel
theorem dL_asks_61 : decode cL_asks 61 = .ok (.iload_n 1, 1) := by decide +kernel
theorem dL_asks_62 : decode cL_asks 62 = .ok (.iconst 4, 1) := by decide +kernel
theorem dL_asks_63 : decode cL_asks 63 = .ok (.if_icmp .ne 12, 3) := by decide +kernel
theorem dL_asks_66 : decode cL_asks 66 = .ok (.aload_n 0, 1) := by decide +kernel
theorem dL_asks_67 : decode cL_asks 67 = .ok (.iload_n 2, 1) := by decide +kernel
theorem dL_asks_68 : decode cL_asks 68 = .ok (.iload_n 3, 1) := by decide +kernel
theorem dL_asks_69 : decode cL_asks 69 = .ok (.invokevirtual 74, 3) := by decide +kernel
theorem dL_asks_72 : decode cL_asks 72 = .ok (.goto 65, 3) := by decide +kernel
theorem dL_asks_75 : decode cL_asks 75 = .ok (.iload_n 1, 1) := by decide +kernel
theorem dL_asks_76 : decode cL_asks 76 = .ok (.iconst 5, 1) := by decide +kernel
theorem dL_asks_77 : decode cL_asks 77 = .ok (.if_icmp .ne 12, 3) := by decide +kernel
theorem dL_asks_80 : decode cL_asks 80 = .ok (.aload_n 0, 1) := by decide +kernel
theorem dL_asks_81 : decode cL_asks 81 = .ok (.iload_n 2, 1) := by decide +kernel
theorem dL_asks_82 : decode cL_asks 82 = .ok (.iload_n 3, 1) := by decide +kernel
theorem dL_asks_83 : decode cL_asks 83 = .ok (.invokevirtual 77, 3) := by decide +kernel
theorem dL_asks_86 : decode cL_asks 86 = .ok (.goto 51, 3) := by decide +kernel
theorem dL_asks_89 : decode cL_asks 89 = .ok (.iload_n 1, 1) := by decide +kernel
theorem dL_asks_90 : decode cL_asks 90 = .ok (.bipush 6, 2) := by decide +kernel
theorem dL_asks_92 : decode cL_asks 92 = .ok (.if_icmp .ne 12, 3) := by decide +kernel
theorem dL_asks_95 : decode cL_asks 95 = .ok (.aload_n 0, 1) := by decide +kernel
theorem dL_asks_96 : decode cL_asks 96 = .ok (.iload_n 2, 1) := by decide +kernel
theorem dL_asks_97 : decode cL_asks 97 = .ok (.iload_n 3, 1) := by decide +kernel
theorem dL_asks_98 : decode cL_asks 98 = .ok (.invokevirtual 80, 3) := by decide +kernel
theorem dL_asks_101 : decode cL_asks 101 = .ok (.goto 36, 3) := by decide +kernel
theorem dL_asks_104 : decode cL_asks 104 = .ok (.iload_n 1, 1) := by decide +kernel
theorem dL_asks_105 : decode cL_asks 105 = .ok (.bipush 7, 2) := by decide +kernel
theorem dL_asks_107 : decode cL_asks 107 = .ok (.if_icmp .ne 11, 3) := by decide +kernel
theorem dL_asks_110 : decode cL_asks 110 = .ok (.aload_n 0, 1) := by decide +kernel
theorem dL_asks_111 : decode cL_asks 111 = .ok (.iload_n 2, 1) := by decide +kernel
theorem dL_asks_112 : decode cL_asks 112 = .ok (.invokevirtual 83, 3) := by decide +kernel
theorem dL_asks_115 : decode cL_asks 115 = .ok (.goto 22, 3) := by decide +kernel
theorem dL_asks_118 : decode cL_asks 118 = .ok (.iload_n 1, 1) := by decide +kernel
theorem dL_asks_119 : decode cL_asks 119 = .ok (.bipush 8, 2) := by decide +kernel
theorem dL_asks_121 : decode cL_asks 121 = .ok (.if_icmp .ne 11, 3) := by decide +kernel
theorem dL_asks_124 : decode cL_asks 124 = .ok (.aload_n 0, 1) := by decide +kernel
theorem dL_asks_125 : decode cL_asks 125 = .ok (.iload_n 2, 1) := by decide +kernel
theorem dL_asks_126 : decode cL_asks 126 = .ok (.invokevirtual 86, 3) := by decide +kernel
theorem dL_asks_129 : decode cL_asks 129 = .ok (.goto 8, 3) := by decide +kernel
theorem dL_asks_132 : decode cL_asks 132 = .ok (.aload_n 0, 1) := by decide +kernel
theorem dL_asks_133 : decode cL_asks 133 = .ok (.iload_n 2, 1) := by decide +kernel
theorem dL_asks_134 : decode cL_asks 134 = .ok (.invokevirtual 89, 3) := by decide +kernel
theorem dL_asks_137 : decode cL_asks 137 = .ok (.ireturn, 1) := by decide +kernel
theorem dL_asks_138 : decode cL_asks 138 = .ok (.astore 4, 2) := by decide +kernel
theorem dL_asks_140 : decode cL_asks 140 = .ok (.ldc 92, 2) := by decide +kernel
theorem dL_asks_142 : decode cL_asks 142 = .ok (.ireturn, 1) := by decide +kernel
theorem dL_asks_143 : decode cL_asks 143 = .ok (.astore 4, 2) := by decide +kernel
theorem dL_asks_145 : decode cL_asks 145 = .ok (.ldc 93, 2) := by decide +kernel
theorem dL_asks_147 : decode cL_asks 147 = .ok (.ireturn, 1) := by decide +kernel
set_option maxRecDepth 20000 in
theorem ggL_average_X1_averageCharge : GoodIn wsL_average wsX1_averageCharge := goodIn_ca (goodIn_ca (goodIn_r _ [9, 10, 11, 12, 13, 14, 15, 8, 16, 17, 18, 19, 20, 21, 22, 23, 24, 25, 26, 27, 28, 29, 30, 31, 32, 33, 34, 35, 36, 37, 38, 39, 40, 41, 42, 43, 44, 45, 46, 47, 48, 49, 50, 51, 52, 53, 54, 55, 56, 57, 58, 59, 60, 61, 62, 63, 64, 65, 66, 67, 68, 69, 70, 71] (by decide +kernel) (by decide +kernel)) (goodIn_sub (fun _ h => List.mem_cons_of_mem _ (List.mem_append_left _ (List.mem_append_right _ h))) (by decide +kernel))) (goodIn_sub (fun _ h => List.mem_cons_of_mem _ (List.mem_append_right _ h)) (by decide +kernel))
set_option maxRecDepth 20000 in
theorem gL_average_X1_averageCharge : GoodIn wsL_average (wsV RL 94 RX1 yX1_averageCharge wsX1_averageCharge) := goodIn_app (goodIn_of _ (by decide +kernel)) ggL_average_X1_averageCharge
theorem dL_average_0 : decode cL_average 0 = .ok (.aload_n 0, 1) := by decide +kernel
theorem dL_average_1 : decode cL_average 1 = .ok (.iload_n 1, 1) := by decide +kernel
theorem dL_average_2 : decode cL_average 2 = .ok (.invokevirtual 94, 3) := by decide +kernel
theorem dL_average_5 : decode cL_average 5 = .ok (.freturn, 1) := by decide +kernel
theorem dL_average_6 : decode cL_average 6 = .ok (.astore_n 2, 1) := by decide +kernel
theorem dL_average_7 : decode cL_average 7 = .ok (.ldc 98, 2) := by decide +kernel
theorem dL_average_9 : decode cL_average 9 = .ok (.freturn, 1) := by decide +kernel
theorem dL_average_10 : decode cL_average 10 = .ok (.astore_n 2, 1) := by decide +kernel
theorem dL_average_11 : decode cL_average 11 = .ok (.ldc 99, 2) := by decide +kernel
theorem dL_average_13 : decode cL_average 13 = .ok (.freturn, 1) := by decide +kernel
theorem dL_bits_0 : decode cL_bits 0 = .ok (.iconst 0, 1) := by decide +kernel
theorem dL_bits_1 : decode cL_bits 1 = .ok (.istore_n 1, 1) := by decide +kernel
theorem dL_bits_2 : decode cL_bits 2 = .ok (.iconst 0, 1) := by decide +kernel
theorem dL_bits_3 : decode cL_bits 3 = .ok (.istore_n 2, 1) := by decide +kernel
theorem dL_bits_4 : decode cL_bits 4 = .ok (.iload_n 2, 1) := by decide +kernel
theorem dL_bits_5 : decode cL_bits 5 = .ok (.bipush 20, 2) := by decide +kernel
theorem dL_bits_7 : decode cL_bits 7 = .ok (.if_icmp .ge 17, 3) := by decide +kernel
theorem dL_bits_10 : decode cL_bits 10 = .ok (.iload_n 1, 1) := by decide +kernel
theorem dL_bits_11 : decode cL_bits 11 = .ok (.iload_n 0, 1) := by decide +kernel
theorem dL_bits_12 : decode cL_bits 12 = .ok (.iload_n 2, 1) := by decide +kernel
theorem dL_bits_13 : decode cL_bits 13 = .ok (.ishr, 1) := by decide +kernel
theorem dL_bits_14 : decode cL_bits 14 = .ok (.iconst 1, 1) := by decide +kernel
theorem dL_bits_15 : decode cL_bits 15 = .ok (.iand, 1) := by decide +kernel
theorem dL_bits_16 : decode cL_bits 16 = .ok (.iadd, 1) := by decide +kernel
theorem dL_bits_17 : decode cL_bits 17 = .ok (.istore_n 1, 1) := by decide +kernel
theorem dL_bits_18 : decode cL_bits 18 = .ok (.iinc 2 1, 3) := by decide +kernel
theorem dL_bits_21 : decode cL_bits 21 = .ok (.goto (-17), 3) := by decide +kernel
theorem dL_bits_24 : decode cL_bits 24 = .ok (.iload_n 1, 1) := by decide +kernel
theorem dL_bits_25 : decode cL_bits 25 = .ok (.ireturn, 1) := by decide +kernel
set_option maxRecDepth 20000 in
theorem ggL_isMoney_X1_house : GoodIn wsL_isMoney wsX1_house := goodIn_r _ [8, 9, 10, 11, 12, 13, 14, 15, 16, 17, 18, 19, 20, 21, 22, 23, 24, 25, 26, 27, 28, 29, 30, 31, 32, 33, 34, 35, 36, 37, 38, 39, 40, 41, 42, 43, 44, 45, 46, 47, 48, 49, 50, 51, 52, 53, 7, 54, 55, 56, 57, 58, 59, 60, 61, 62, 63, 64, 65, 66, 67, 68, 69, 70, 71, 72, 73, 74, 75, 76, 77, 78, 79, 80, 81, 82, 83, 84, 85, 86, 87, 88, 89, 90, 91, 92, 93, 94, 95, 96, 97, 98, 99, 100, 101, 102, 103, 104, 105, 106, 107, 108, 222, 223, 224, 225, 226, 227, 228, 229, 230, 231, 232, 233, 234, 235, 236, 237, 238, 239, 240] (by decide +kernel) (by decide +kernel)
set_option maxRecDepth 20000 in
theorem gL_isMoney_X1_house : GoodIn wsL_isMoney (wsV RL 100 RX1 yX1_house wsX1_house) := goodIn_app (goodIn_of _ (by decide +kernel)) ggL_isMoney_X1_house
set_option maxRecDepth 20000 in
theorem ggL_isMoney_X1_week : GoodIn wsL_isMoney wsX1_week := goodIn_r _ [112, 11, 222, 223, 224, 225, 226] (by decide +kernel) (by decide +kernel)
set_option maxRecDepth 20000 in
theorem gL_isMoney_X1_week : GoodIn wsL_isMoney (wsV RL 103 RX1 yX1_week wsX1_week) := goodIn_app (goodIn_of _ (by decide +kernel)) ggL_isMoney_X1_week
set_option maxRecDepth 20000 in
theorem ggL_isMoney_X1_openDisputes : GoodIn wsL_isMoney wsX1_openDisputes := goodIn_r _ [116, 9, 10, 12, 13, 14, 15, 16, 17, 18, 19, 20, 21, 22, 23, 24, 25, 26, 27, 28, 29, 30, 31, 32, 33, 34, 117, 118, 119, 38, 120, 121, 122, 123, 124, 125, 126, 127, 128, 129, 222, 223, 224, 225, 226, 227, 228, 229, 230, 231, 232, 233, 234, 235, 236, 237, 238, 239, 240] (by decide +kernel) (by decide +kernel)
set_option maxRecDepth 20000 in
theorem gL_isMoney_X1_openDisputes : GoodIn wsL_isMoney (wsV RL 106 RX1 yX1_openDisputes wsX1_openDisputes) := goodIn_app (goodIn_of _ (by decide +kernel)) ggL_isMoney_X1_openDisputes
set_option maxRecDepth 20000 in
theorem ggL_isMoney_X1_charge : GoodIn wsL_isMoney wsX1_charge := goodIn_ca (goodIn_r _ [133, 134, 135, 136, 7, 137, 138, 139, 9, 10, 12, 13, 14, 15, 16, 17, 18, 19, 20, 21, 22, 23, 24, 25, 26, 27, 28, 29, 30, 31, 32, 33, 34, 140, 141, 142, 143, 144, 145, 38, 146, 45, 222, 223, 224, 225, 226, 227, 228, 229, 230, 231, 232, 233, 234, 235, 236, 237, 238, 239, 240] (by decide +kernel) (by decide +kernel)) (goodIn_sub (fun _ h => List.mem_cons_of_mem _ (List.mem_append_left _ (List.mem_append_left _ (List.mem_append_right _ h)))) (by decide +kernel))
set_option maxRecDepth 20000 in
theorem gL_isMoney_X1_charge : GoodIn wsL_isMoney (wsV RL 64 RX1 yX1_charge wsX1_charge) := goodIn_app (goodIn_of _ (by decide +kernel)) ggL_isMoney_X1_charge
set_option maxRecDepth 20000 in
theorem ggL_isMoney_L_average : GoodIn wsL_isMoney wsL_average := goodIn_ca (goodIn_ca (goodIn_r _ [150, 151, 152, 153, 1, 154, 155, 156, 7, 157, 158, 159, 9, 10, 140, 141, 142, 138, 139, 12, 13, 14, 15, 16, 17, 18, 19, 20, 21, 22, 23, 24, 25, 26, 27, 28, 29, 30, 31, 32, 33, 34, 35, 36, 37, 38, 39, 40, 143, 144, 145, 146, 45, 222, 223, 224, 225, 226, 227, 228, 229, 230, 231, 232, 233, 234, 235, 236, 237, 238, 239, 240] (by decide +kernel) (by decide +kernel)) (goodIn_sub (fun _ h => List.mem_cons_of_mem _ (List.mem_append_left _ (List.mem_append_right _ h))) (by decide +kernel))) (goodIn_sub (fun _ h => List.mem_cons_of_mem _ (List.mem_append_left _ (List.mem_append_left _ (List.mem_append_right _ h)))) (by decide +kernel))
set_option maxRecDepth 20000 in
theorem gL_isMoney_L_average : GoodIn wsL_isMoney (va_wsS RL 109 yL_average wsL_average) := goodIn_app (goodIn_of _ (by decide +kernel)) ggL_isMoney_L_average
set_option maxRecDepth 20000 in
theorem ggL_isMoney_X1_spent : GoodIn wsL_isMoney wsX1_spent := goodIn_ca (goodIn_r _ [163, 9, 10, 140, 141, 7, 142, 138, 139, 12, 13, 14, 15, 16, 17, 18, 19, 20, 21, 22, 23, 24, 25, 26, 27, 28, 29, 30, 31, 32, 33, 34, 35, 36, 37, 38, 39, 40, 143, 144, 145, 146, 45, 164, 165, 166, 167, 50, 222, 223, 224, 225, 226, 227, 228, 229, 230, 231, 232, 233, 234, 235, 236, 237, 238, 239, 240] (by decide +kernel) (by decide +kernel)) (goodIn_sub (fun _ h => List.mem_cons_of_mem _ (List.mem_append_left _ (List.mem_append_left _ (List.mem_append_right _ h)))) (by decide +kernel))
set_option maxRecDepth 20000 in
theorem gL_isMoney_X1_spent : GoodIn wsL_isMoney (wsV RL 89 RX1 yX1_spent wsX1_spent) := goodIn_app (goodIn_of _ (by decide +kernel)) ggL_isMoney_X1_spent
set_option maxRecDepth 20000 in
theorem ggL_isMoney_X1_earnings : GoodIn wsL_isMoney wsX1_earnings := goodIn_ca (goodIn_ca (goodIn_r _ [171, 11, 172, 173, 7, 174, 138, 139, 175, 176, 177, 178, 179, 59, 60, 61, 62, 9, 10, 12, 13, 14, 15, 16, 17, 18, 19, 20, 21, 22, 23, 24, 25, 26, 27, 28, 29, 30, 31, 32, 33, 34, 63, 64, 65, 38, 66, 40, 67, 68, 69, 70, 71, 72, 73, 74, 75, 76, 45, 77, 50, 78, 79, 80, 222, 223, 224, 225, 226, 227, 228, 229, 230, 231, 232, 233, 234, 235, 236, 237, 238, 239, 240] (by decide +kernel) (by decide +kernel)) (goodIn_sub (fun _ h => List.mem_cons_of_mem _ (List.mem_append_left _ (List.mem_append_left _ (List.mem_append_right _ h)))) (by decide +kernel))) (goodIn_sub (fun _ h => List.mem_cons_of_mem _ (List.mem_append_right _ h)) (by decide +kernel))
set_option maxRecDepth 20000 in
theorem gL_isMoney_X1_earnings : GoodIn wsL_isMoney (wsV RL 71 RX1 yX1_earnings wsX1_earnings) := goodIn_app (goodIn_of _ (by decide +kernel)) ggL_isMoney_X1_earnings
set_option maxRecDepth 20000 in
theorem ggL_isMoney_X1_bonus : GoodIn wsL_isMoney wsX1_bonus := goodIn_ca (goodIn_ca (goodIn_r _ [183, 11, 172, 173, 7, 174, 138, 139, 175, 176, 177, 178, 179, 102, 103, 104, 105, 9, 10, 12, 13, 14, 15, 16, 17, 18, 19, 20, 21, 22, 23, 24, 25, 26, 27, 28, 29, 30, 31, 32, 33, 34, 63, 64, 65, 38, 66, 40, 67, 68, 93, 94, 95, 96, 45, 77, 50, 78, 79, 80, 106, 107, 108, 222, 223, 224, 225, 226, 227, 228, 229, 230, 231, 232, 233, 234, 235, 236, 237, 238, 239, 240] (by decide +kernel) (by decide +kernel)) (goodIn_sub (fun _ h => List.mem_cons_of_mem _ (List.mem_append_left _ (List.mem_append_left _ (List.mem_append_right _ h)))) (by decide +kernel))) (goodIn_sub (fun _ h => List.mem_cons_of_mem _ (List.mem_append_right _ h)) (by decide +kernel))
set_option maxRecDepth 20000 in
theorem gL_isMoney_X1_bonus : GoodIn wsL_isMoney (wsV RL 77 RX1 yX1_bonus wsX1_bonus) := goodIn_app (goodIn_of _ (by decide +kernel)) ggL_isMoney_X1_bonus
set_option maxRecDepth 20000 in
theorem ggL_isMoney_X1_topUp : GoodIn wsL_isMoney wsX1_topUp := goodIn_ca (goodIn_ca (goodIn_r _ [187, 11, 172, 173, 7, 174, 138, 139, 175, 176, 177, 178, 179, 59, 60, 61, 62, 9, 10, 12, 13, 14, 15, 16, 17, 18, 19, 20, 21, 22, 23, 24, 25, 26, 27, 28, 29, 30, 31, 32, 33, 34, 63, 64, 65, 38, 66, 40, 67, 68, 69, 70, 71, 72, 73, 74, 75, 76, 45, 77, 50, 78, 79, 80, 81, 82, 83, 84, 85, 86, 87, 88, 89, 90, 91, 92, 93, 94, 95, 96, 97, 98, 99, 100, 101, 222, 223, 224, 225, 226, 227, 228, 229, 230, 231, 232, 233, 234, 235, 236, 237, 238, 239, 240] (by decide +kernel) (by decide +kernel)) (goodIn_sub (fun _ h => List.mem_cons_of_mem _ (List.mem_append_left _ (List.mem_append_left _ (List.mem_append_right _ h)))) (by decide +kernel))) (goodIn_sub (fun _ h => List.mem_cons_of_mem _ (List.mem_append_right _ h)) (by decide +kernel))
set_option maxRecDepth 20000 in
theorem gL_isMoney_X1_topUp : GoodIn wsL_isMoney (wsV RL 74 RX1 yX1_topUp wsX1_topUp) := goodIn_app (goodIn_of _ (by decide +kernel)) ggL_isMoney_X1_topUp
set_option maxRecDepth 20000 in
theorem ggL_isMoney_X1_pay : GoodIn wsL_isMoney wsX1_pay := goodIn_ca (goodIn_ca (goodIn_r _ [191, 11, 172, 173, 7, 174, 138, 139, 175, 176, 177, 178, 179, 55, 56, 57, 58, 59, 60, 61, 62, 9, 10, 12, 13, 14, 15, 16, 17, 18, 19, 20, 21, 22, 23, 24, 25, 26, 27, 28, 29, 30, 31, 32, 33, 34, 63, 64, 65, 38, 66, 40, 67, 68, 69, 70, 71, 72, 73, 74, 75, 76, 45, 77, 50, 78, 79, 80, 81, 82, 83, 84, 85, 86, 87, 88, 89, 90, 91, 92, 93, 94, 95, 96, 97, 98, 99, 100, 101, 102, 103, 104, 105, 106, 107, 108, 222, 223, 224, 225, 226, 227, 228, 229, 230, 231, 232, 233, 234, 235, 236, 237, 238, 239, 240] (by decide +kernel) (by decide +kernel)) (goodIn_sub (fun _ h => List.mem_cons_of_mem _ (List.mem_append_left _ (List.mem_append_left _ (List.mem_append_right _ h)))) (by decide +kernel))) (goodIn_sub (fun _ h => List.mem_cons_of_mem _ (List.mem_append_right _ h)) (by decide +kernel))
set_option maxRecDepth 20000 in
theorem gL_isMoney_X1_pay : GoodIn wsL_isMoney (wsV RL 80 RX1 yX1_pay wsX1_pay) := goodIn_app (goodIn_of _ (by decide +kernel)) ggL_isMoney_X1_pay
set_option maxRecDepth 20000 in
theorem ggL_isMoney_X1_balance : GoodIn wsL_isMoney wsX1_balance := goodIn_ca (goodIn_r _ [195, 172, 173, 7, 174, 138, 139, 196, 197, 198, 199, 11, 200, 51, 52, 53, 54, 55, 56, 57, 58, 59, 60, 61, 62, 9, 10, 12, 13, 14, 15, 16, 17, 18, 19, 20, 21, 22, 23, 24, 25, 26, 27, 28, 29, 30, 31, 32, 33, 34, 63, 64, 65, 38, 66, 40, 67, 68, 69, 70, 71, 72, 73, 74, 75, 76, 45, 77, 50, 78, 79, 80, 81, 82, 83, 84, 85, 86, 87, 88, 89, 90, 91, 92, 93, 94, 95, 96, 97, 98, 99, 100, 101, 102, 103, 104, 105, 106, 107, 108, 222, 223, 224, 225, 226, 227, 228, 229, 230, 231, 232, 233, 234, 235, 236, 237, 238, 239, 240] (by decide +kernel) (by decide +kernel)) (goodIn_sub (fun _ h => List.mem_cons_of_mem _ (List.mem_append_left _ (List.mem_append_left _ (List.mem_append_right _ h)))) (by decide +kernel))
set_option maxRecDepth 20000 in
theorem gL_isMoney_X1_balance : GoodIn wsL_isMoney (wsV RL 83 RX1 yX1_balance wsX1_balance) := goodIn_app (goodIn_of _ (by decide +kernel)) ggL_isMoney_X1_balance
set_option maxRecDepth 20000 in
theorem ggL_isMoney_X1_paid : GoodIn wsL_isMoney wsX1_paid := goodIn_ca (goodIn_r _ [204, 200, 172, 173, 7, 174, 138, 139, 222, 223, 224, 225, 226] (by decide +kernel) (by decide +kernel)) (goodIn_sub (fun _ h => List.mem_cons_of_mem _ (List.mem_append_left _ (List.mem_append_left _ (List.mem_append_right _ h)))) (by decide +kernel))
set_option maxRecDepth 20000 in
theorem gL_isMoney_X1_paid : GoodIn wsL_isMoney (wsV RL 86 RX1 yX1_paid wsX1_paid) := goodIn_app (goodIn_of _ (by decide +kernel)) ggL_isMoney_X1_paid
set_option maxRecDepth 20000 in
theorem ggL_isMoney_L_asks : GoodIn wsL_isMoney wsL_asks := goodIn_ca (goodIn_ca (goodIn_r _ [207, 151, 208, 3, 2, 209, 210, 211, 7, 212, 134, 135, 136, 137, 138, 139, 9, 10, 12, 13, 14, 15, 16, 17, 18, 19, 20, 21, 22, 23, 24, 25, 26, 27, 28, 29, 30, 31, 32, 33, 34, 213, 214, 215, 38, 216, 217, 130, 131, 132, 133, 140, 141, 142, 143, 144, 145, 146, 45, 218, 219, 220, 221, 93, 94, 95, 96, 77, 50, 40, 78, 79, 80, 168, 169, 170, 171, 11, 172, 173, 174, 175, 176, 177, 178, 179, 59, 60, 61, 62, 63, 64, 65, 66, 67, 68, 69, 70, 71, 72, 73, 74, 75, 76, 184, 185, 186, 187, 81, 82, 83, 84, 85, 86, 87, 88, 89, 90, 91, 92, 97, 98, 99, 100, 101, 180, 181, 182, 183, 102, 103, 104, 105, 106, 107, 108, 188, 189, 190, 191, 55, 56, 57, 58, 192, 193, 194, 195, 196, 197, 198, 199, 200, 51, 52, 53, 54, 201, 202, 203, 204, 160, 161, 162, 163, 35, 36, 37, 39, 164, 165, 166, 167, 222, 223, 224, 225, 226, 227, 228, 229, 230, 231, 232, 233, 234, 235, 236, 237, 238, 239, 240] (by decide +kernel) (by decide +kernel)) (goodIn_sub (fun _ h => List.mem_cons_of_mem _ (List.mem_append_left _ (List.mem_append_left _ (List.mem_append_right _ h)))) (by decide +kernel))) (goodIn_sub (fun _ h => List.mem_cons_of_mem _ (List.mem_append_right _ h)) (by decide +kernel))
set_option maxRecDepth 20000 in
theorem gL_isMoney_L_asks : GoodIn wsL_isMoney (va_wsS RL 113 yL_asks wsL_asks) := goodIn_app (goodIn_of _ (by decide +kernel)) ggL_isMoney_L_asks
theorem dL_isMoney_0 : decode cL_isMoney 0 = .ok (.iconst 0, 1) := by decide +kernel
theorem dL_isMoney_1 : decode cL_isMoney 1 = .ok (.istore 4, 2) := by decide +kernel
theorem dL_isMoney_3 : decode cL_isMoney 3 = .ok (.aload_n 0, 1) := by decide +kernel
theorem dL_isMoney_4 : decode cL_isMoney 4 = .ok (.invokevirtual 100, 3) := by decide +kernel
theorem dL_isMoney_7 : decode cL_isMoney 7 = .ok (.istore 5, 2) := by decide +kernel
theorem dL_isMoney_9 : decode cL_isMoney 9 = .ok (.aload_n 0, 1) := by decide +kernel
theorem dL_isMoney_10 : decode cL_isMoney 10 = .ok (.invokevirtual 103, 3) := by decide +kernel
theorem dL_isMoney_13 : decode cL_isMoney 13 = .ok (.aload_n 3, 1) := by decide +kernel
theorem dL_isMoney_14 : decode cL_isMoney 14 = .ok (.iconst 1, 1) := by decide +kernel
theorem dL_isMoney_15 : decode cL_isMoney 15 = .ok (.iaload, 1) := by decide +kernel
theorem dL_isMoney_16 : decode cL_isMoney 16 = .ok (.if_icmp .ne 17, 3) := by decide +kernel
theorem dL_isMoney_19 : decode cL_isMoney 19 = .ok (.aload_n 0, 1) := by decide +kernel
theorem dL_isMoney_20 : decode cL_isMoney 20 = .ok (.invokevirtual 106, 3) := by decide +kernel
theorem dL_isMoney_23 : decode cL_isMoney 23 = .ok (.aload_n 3, 1) := by decide +kernel
theorem dL_isMoney_24 : decode cL_isMoney 24 = .ok (.iconst 4, 1) := by decide +kernel
theorem dL_isMoney_25 : decode cL_isMoney 25 = .ok (.iaload, 1) := by decide +kernel
theorem dL_isMoney_26 : decode cL_isMoney 26 = .ok (.if_icmp .ne 7, 3) := by decide +kernel
theorem dL_isMoney_29 : decode cL_isMoney 29 = .ok (.iconst 1, 1) := by decide +kernel
theorem dL_isMoney_30 : decode cL_isMoney 30 = .ok (.goto 4, 3) := by decide +kernel
theorem dL_isMoney_33 : decode cL_isMoney 33 = .ok (.iconst 0, 1) := by decide +kernel
theorem dL_isMoney_34 : decode cL_isMoney 34 = .ok (.istore 6, 2) := by decide +kernel
theorem dL_isMoney_36 : decode cL_isMoney 36 = .ok (.iconst 0, 1) := by decide +kernel
theorem dL_isMoney_37 : decode cL_isMoney 37 = .ok (.istore 7, 2) := by decide +kernel
theorem dL_isMoney_39 : decode cL_isMoney 39 = .ok (.iload 7, 2) := by decide +kernel
theorem dL_isMoney_41 : decode cL_isMoney 41 = .ok (.bipush 10, 2) := by decide +kernel
theorem dL_isMoney_43 : decode cL_isMoney 43 = .ok (.if_icmp .ge 163, 3) := by decide +kernel
theorem dL_isMoney_46 : decode cL_isMoney 46 = .ok (.iload 6, 2) := by decide +kernel
theorem dL_isMoney_48 : decode cL_isMoney 48 = .ok (.ifCond .eq 158, 3) := by decide +kernel
theorem dL_isMoney_51 : decode cL_isMoney 51 = .ok (.iconst 0, 1) := by decide +kernel
theorem dL_isMoney_52 : decode cL_isMoney 52 = .ok (.istore 8, 2) := by decide +kernel
theorem dL_isMoney_54 : decode cL_isMoney 54 = .ok (.iconst 0, 1) := by decide +kernel
theorem dL_isMoney_55 : decode cL_isMoney 55 = .ok (.istore 9, 2) := by decide +kernel
theorem dL_isMoney_57 : decode cL_isMoney 57 = .ok (.iconst 0, 1) := by decide +kernel
theorem dL_isMoney_58 : decode cL_isMoney 58 = .ok (.istore 10, 2) := by decide +kernel
theorem dL_isMoney_60 : decode cL_isMoney 60 = .ok (.iload 10, 2) := by decide +kernel
theorem dL_isMoney_62 : decode cL_isMoney 62 = .ok (.aload_n 3, 1) := by decide +kernel
theorem dL_isMoney_63 : decode cL_isMoney 63 = .ok (.iconst 0, 1) := by decide +kernel
theorem dL_isMoney_64 : decode cL_isMoney 64 = .ok (.iaload, 1) := by decide +kernel
theorem dL_isMoney_65 : decode cL_isMoney 65 = .ok (.if_icmp .ge 55, 3) := by decide +kernel
theorem dL_isMoney_68 : decode cL_isMoney 68 = .ok (.aload_n 1, 1) := by decide +kernel
theorem dL_isMoney_69 : decode cL_isMoney 69 = .ok (.bipush 20, 2) := by decide +kernel
theorem dL_isMoney_71 : decode cL_isMoney 71 = .ok (.iload 10, 2) := by decide +kernel
theorem dL_isMoney_73 : decode cL_isMoney 73 = .ok (.iadd, 1) := by decide +kernel
theorem dL_isMoney_74 : decode cL_isMoney 74 = .ok (.iaload, 1) := by decide +kernel
theorem dL_isMoney_75 : decode cL_isMoney 75 = .ok (.ifCond .ne 7, 3) := by decide +kernel
theorem dL_isMoney_78 : decode cL_isMoney 78 = .ok (.iconst 0, 1) := by decide +kernel
theorem dL_isMoney_79 : decode cL_isMoney 79 = .ok (.goto 11, 3) := by decide +kernel
theorem dL_isMoney_82 : decode cL_isMoney 82 = .ok (.aload_n 0, 1) := by decide +kernel
theorem dL_isMoney_83 : decode cL_isMoney 83 = .ok (.iload 10, 2) := by decide +kernel
theorem dL_isMoney_85 : decode cL_isMoney 85 = .ok (.iload 7, 2) := by decide +kernel
theorem dL_isMoney_87 : decode cL_isMoney 87 = .ok (.invokevirtual 64, 3) := by decide +kernel
theorem dL_isMoney_90 : decode cL_isMoney 90 = .ok (.istore 11, 2) := by decide +kernel
theorem dL_isMoney_92 : decode cL_isMoney 92 = .ok (.iload 8, 2) := by decide +kernel
theorem dL_isMoney_94 : decode cL_isMoney 94 = .ok (.iload 11, 2) := by decide +kernel
theorem dL_isMoney_96 : decode cL_isMoney 96 = .ok (.iadd, 1) := by decide +kernel
theorem dL_isMoney_97 : decode cL_isMoney 97 = .ok (.istore 8, 2) := by decide +kernel
theorem dL_isMoney_99 : decode cL_isMoney 99 = .ok (.iload 9, 2) := by decide +kernel
theorem dL_isMoney_101 : decode cL_isMoney 101 = .ok (.iload 11, 2) := by decide +kernel
theorem dL_isMoney_103 : decode cL_isMoney 103 = .ok (.ifCond .le 7, 3) := by decide +kernel
theorem dL_isMoney_106 : decode cL_isMoney 106 = .ok (.iconst 1, 1) := by decide +kernel
theorem dL_isMoney_107 : decode cL_isMoney 107 = .ok (.goto 4, 3) := by decide +kernel
theorem dL_isMoney_110 : decode cL_isMoney 110 = .ok (.iconst 0, 1) := by decide +kernel
theorem dL_isMoney_111 : decode cL_isMoney 111 = .ok (.iadd, 1) := by decide +kernel
theorem dL_isMoney_112 : decode cL_isMoney 112 = .ok (.istore 9, 2) := by decide +kernel
theorem dL_isMoney_114 : decode cL_isMoney 114 = .ok (.iinc 10 1, 3) := by decide +kernel
theorem dL_isMoney_117 : decode cL_isMoney 117 = .ok (.goto (-57), 3) := by decide +kernel
theorem dL_isMoney_120 : decode cL_isMoney 120 = .ok (.aload_n 0, 1) := by decide +kernel
theorem dL_isMoney_121 : decode cL_isMoney 121 = .ok (.iload 7, 2) := by decide +kernel
theorem dL_isMoney_123 : decode cL_isMoney 123 = .ok (.invokestatic 109, 3) := by decide +kernel
theorem dL_isMoney_126 : decode cL_isMoney 126 = .ok (.fstore 10, 2) := by decide +kernel
theorem dL_isMoney_128 : decode cL_isMoney 128 = .ok (.aload_n 0, 1) := by decide +kernel
theorem dL_isMoney_129 : decode cL_isMoney 129 = .ok (.iload 7, 2) := by decide +kernel
theorem dL_isMoney_131 : decode cL_isMoney 131 = .ok (.invokevirtual 89, 3) := by decide +kernel
theorem dL_isMoney_134 : decode cL_isMoney 134 = .ok (.iload 8, 2) := by decide +kernel
theorem dL_isMoney_136 : decode cL_isMoney 136 = .ok (.aload_n 2, 1) := by decide +kernel
theorem dL_isMoney_137 : decode cL_isMoney 137 = .ok (.iload 7, 2) := by decide +kernel
theorem dL_isMoney_139 : decode cL_isMoney 139 = .ok (.iaload, 1) := by decide +kernel
theorem dL_isMoney_140 : decode cL_isMoney 140 = .ok (.isub, 1) := by decide +kernel
theorem dL_isMoney_141 : decode cL_isMoney 141 = .ok (.if_icmp .ne 45, 3) := by decide +kernel
theorem dL_isMoney_144 : decode cL_isMoney 144 = .ok (.iload 9, 2) := by decide +kernel
theorem dL_isMoney_146 : decode cL_isMoney 146 = .ok (.ifCond .ne 14, 3) := by decide +kernel
theorem dL_isMoney_149 : decode cL_isMoney 149 = .ok (.fload 10, 2) := by decide +kernel
theorem dL_isMoney_151 : decode cL_isMoney 151 = .ok (.ldc 99, 2) := by decide +kernel
theorem dL_isMoney_153 : decode cL_isMoney 153 = .ok (.fcmp .l, 1) := by decide +kernel
theorem dL_isMoney_154 : decode cL_isMoney 154 = .ok (.ifCond .ne 32, 3) := by decide +kernel
theorem dL_isMoney_157 : decode cL_isMoney 157 = .ok (.goto 16, 3) := by decide +kernel
theorem dL_isMoney_160 : decode cL_isMoney 160 = .ok (.fload 10, 2) := by decide +kernel
theorem dL_isMoney_162 : decode cL_isMoney 162 = .ok (.iload 8, 2) := by decide +kernel
theorem dL_isMoney_164 : decode cL_isMoney 164 = .ok (.i2f, 1) := by decide +kernel
theorem dL_isMoney_165 : decode cL_isMoney 165 = .ok (.iload 9, 2) := by decide +kernel
theorem dL_isMoney_167 : decode cL_isMoney 167 = .ok (.i2f, 1) := by decide +kernel
theorem dL_isMoney_168 : decode cL_isMoney 168 = .ok (.fdiv, 1) := by decide +kernel
theorem dL_isMoney_169 : decode cL_isMoney 169 = .ok (.fcmp .l, 1) := by decide +kernel
theorem dL_isMoney_170 : decode cL_isMoney 170 = .ok (.ifCond .ne 16, 3) := by decide +kernel
theorem dL_isMoney_173 : decode cL_isMoney 173 = .ok (.aload_n 0, 1) := by decide +kernel
theorem dL_isMoney_174 : decode cL_isMoney 174 = .ok (.iload 7, 2) := by decide +kernel
theorem dL_isMoney_176 : decode cL_isMoney 176 = .ok (.invokevirtual 89, 3) := by decide +kernel
theorem dL_isMoney_179 : decode cL_isMoney 179 = .ok (.ifCond .lt 7, 3) := by decide +kernel
theorem dL_isMoney_182 : decode cL_isMoney 182 = .ok (.iconst 1, 1) := by decide +kernel
theorem dL_isMoney_183 : decode cL_isMoney 183 = .ok (.goto 4, 3) := by decide +kernel
theorem dL_isMoney_186 : decode cL_isMoney 186 = .ok (.iconst 0, 1) := by decide +kernel
theorem dL_isMoney_187 : decode cL_isMoney 187 = .ok (.istore 6, 2) := by decide +kernel
theorem dL_isMoney_189 : decode cL_isMoney 189 = .ok (.iload 4, 2) := by decide +kernel
theorem dL_isMoney_191 : decode cL_isMoney 191 = .ok (.aload_n 0, 1) := by decide +kernel
theorem dL_isMoney_192 : decode cL_isMoney 192 = .ok (.iload 7, 2) := by decide +kernel
theorem dL_isMoney_194 : decode cL_isMoney 194 = .ok (.invokevirtual 89, 3) := by decide +kernel
theorem dL_isMoney_197 : decode cL_isMoney 197 = .ok (.iadd, 1) := by decide +kernel
theorem dL_isMoney_198 : decode cL_isMoney 198 = .ok (.istore 4, 2) := by decide +kernel
theorem dL_isMoney_200 : decode cL_isMoney 200 = .ok (.iinc 7 1, 3) := by decide +kernel
theorem dL_isMoney_203 : decode cL_isMoney 203 = .ok (.goto (-164), 3) := by decide +kernel
theorem dL_isMoney_206 : decode cL_isMoney 206 = .ok (.iconst 0, 1) := by decide +kernel
theorem dL_isMoney_207 : decode cL_isMoney 207 = .ok (.istore 7, 2) := by decide +kernel
theorem dL_isMoney_209 : decode cL_isMoney 209 = .ok (.iload 7, 2) := by decide +kernel
theorem dL_isMoney_211 : decode cL_isMoney 211 = .ok (.iconst 5, 1) := by decide +kernel
theorem dL_isMoney_212 : decode cL_isMoney 212 = .ok (.if_icmp .ge 231, 3) := by decide +kernel
theorem dL_isMoney_215 : decode cL_isMoney 215 = .ok (.iload 6, 2) := by decide +kernel
theorem dL_isMoney_217 : decode cL_isMoney 217 = .ok (.ifCond .eq 226, 3) := by decide +kernel
theorem dL_isMoney_220 : decode cL_isMoney 220 = .ok (.iconst 0, 1) := by decide +kernel
theorem dL_isMoney_221 : decode cL_isMoney 221 = .ok (.istore 8, 2) := by decide +kernel
theorem dL_isMoney_223 : decode cL_isMoney 223 = .ok (.iconst 0, 1) := by decide +kernel
theorem dL_isMoney_224 : decode cL_isMoney 224 = .ok (.istore 9, 2) := by decide +kernel
theorem dL_isMoney_226 : decode cL_isMoney 226 = .ok (.iload 9, 2) := by decide +kernel
theorem dL_isMoney_228 : decode cL_isMoney 228 = .ok (.aload_n 3, 1) := by decide +kernel
theorem dL_isMoney_229 : decode cL_isMoney 229 = .ok (.iconst 1, 1) := by decide +kernel
theorem dL_isMoney_230 : decode cL_isMoney 230 = .ok (.iaload, 1) := by decide +kernel
theorem dL_isMoney_231 : decode cL_isMoney 231 = .ok (.if_icmp .gt 149, 3) := by decide +kernel
theorem dL_isMoney_234 : decode cL_isMoney 234 = .ok (.aload_n 0, 1) := by decide +kernel
theorem dL_isMoney_235 : decode cL_isMoney 235 = .ok (.iload 7, 2) := by decide +kernel
theorem dL_isMoney_237 : decode cL_isMoney 237 = .ok (.iload 9, 2) := by decide +kernel
theorem dL_isMoney_239 : decode cL_isMoney 239 = .ok (.invokevirtual 71, 3) := by decide +kernel
theorem dL_isMoney_242 : decode cL_isMoney 242 = .ok (.istore 10, 2) := by decide +kernel
theorem dL_isMoney_244 : decode cL_isMoney 244 = .ok (.aload_n 0, 1) := by decide +kernel
theorem dL_isMoney_245 : decode cL_isMoney 245 = .ok (.iload 7, 2) := by decide +kernel
theorem dL_isMoney_247 : decode cL_isMoney 247 = .ok (.iload 9, 2) := by decide +kernel
theorem dL_isMoney_249 : decode cL_isMoney 249 = .ok (.invokevirtual 77, 3) := by decide +kernel
theorem dL_isMoney_252 : decode cL_isMoney 252 = .ok (.istore 11, 2) := by decide +kernel
theorem dL_isMoney_254 : decode cL_isMoney 254 = .ok (.iload 6, 2) := by decide +kernel
theorem dL_isMoney_256 : decode cL_isMoney 256 = .ok (.ifCond .eq 77, 3) := by decide +kernel
theorem dL_isMoney_259 : decode cL_isMoney 259 = .ok (.iload 10, 2) := by decide +kernel
theorem dL_isMoney_261 : decode cL_isMoney 261 = .ok (.ifCond .lt 72, 3) := by decide +kernel
theorem dL_isMoney_264 : decode cL_isMoney 264 = .ok (.aload_n 0, 1) := by decide +kernel
theorem dL_isMoney_265 : decode cL_isMoney 265 = .ok (.iload 7, 2) := by decide +kernel
theorem dL_isMoney_267 : decode cL_isMoney 267 = .ok (.iload 9, 2) := by decide +kernel
theorem dL_isMoney_269 : decode cL_isMoney 269 = .ok (.invokevirtual 74, 3) := by decide +kernel
theorem dL_isMoney_272 : decode cL_isMoney 272 = .ok (.ifCond .lt 61, 3) := by decide +kernel
theorem dL_isMoney_275 : decode cL_isMoney 275 = .ok (.aload_n 0, 1) := by decide +kernel
theorem dL_isMoney_276 : decode cL_isMoney 276 = .ok (.iload 7, 2) := by decide +kernel
theorem dL_isMoney_278 : decode cL_isMoney 278 = .ok (.iload 9, 2) := by decide +kernel
theorem dL_isMoney_280 : decode cL_isMoney 280 = .ok (.invokevirtual 80, 3) := by decide +kernel
theorem dL_isMoney_283 : decode cL_isMoney 283 = .ok (.iload 10, 2) := by decide +kernel
theorem dL_isMoney_285 : decode cL_isMoney 285 = .ok (.aload_n 0, 1) := by decide +kernel
theorem dL_isMoney_286 : decode cL_isMoney 286 = .ok (.iload 7, 2) := by decide +kernel
theorem dL_isMoney_288 : decode cL_isMoney 288 = .ok (.iload 9, 2) := by decide +kernel
theorem dL_isMoney_290 : decode cL_isMoney 290 = .ok (.invokevirtual 74, 3) := by decide +kernel
theorem dL_isMoney_293 : decode cL_isMoney 293 = .ok (.iadd, 1) := by decide +kernel
theorem dL_isMoney_294 : decode cL_isMoney 294 = .ok (.iload 11, 2) := by decide +kernel
theorem dL_isMoney_296 : decode cL_isMoney 296 = .ok (.iadd, 1) := by decide +kernel
theorem dL_isMoney_297 : decode cL_isMoney 297 = .ok (.if_icmp .ne 36, 3) := by decide +kernel
theorem dL_isMoney_300 : decode cL_isMoney 300 = .ok (.iload 11, 2) := by decide +kernel
theorem dL_isMoney_302 : decode cL_isMoney 302 = .ok (.ifCond .eq 27, 3) := by decide +kernel
theorem dL_isMoney_305 : decode cL_isMoney 305 = .ok (.iload 11, 2) := by decide +kernel
theorem dL_isMoney_307 : decode cL_isMoney 307 = .ok (.sipush 1000, 3) := by decide +kernel
theorem dL_isMoney_310 : decode cL_isMoney 310 = .ok (.if_icmp .eq 19, 3) := by decide +kernel
theorem dL_isMoney_313 : decode cL_isMoney 313 = .ok (.iload 11, 2) := by decide +kernel
theorem dL_isMoney_315 : decode cL_isMoney 315 = .ok (.sipush 3000, 3) := by decide +kernel
theorem dL_isMoney_318 : decode cL_isMoney 318 = .ok (.if_icmp .eq 11, 3) := by decide +kernel
theorem dL_isMoney_321 : decode cL_isMoney 321 = .ok (.iload 11, 2) := by decide +kernel
theorem dL_isMoney_323 : decode cL_isMoney 323 = .ok (.sipush 6000, 3) := by decide +kernel
theorem dL_isMoney_326 : decode cL_isMoney 326 = .ok (.if_icmp .ne 7, 3) := by decide +kernel
theorem dL_isMoney_329 : decode cL_isMoney 329 = .ok (.iconst 1, 1) := by decide +kernel
theorem dL_isMoney_330 : decode cL_isMoney 330 = .ok (.goto 4, 3) := by decide +kernel
theorem dL_isMoney_333 : decode cL_isMoney 333 = .ok (.iconst 0, 1) := by decide +kernel
theorem dL_isMoney_334 : decode cL_isMoney 334 = .ok (.istore 6, 2) := by decide +kernel
theorem dL_isMoney_336 : decode cL_isMoney 336 = .ok (.iload 5, 2) := by decide +kernel
theorem dL_isMoney_338 : decode cL_isMoney 338 = .ok (.aload_n 0, 1) := by decide +kernel
theorem dL_isMoney_339 : decode cL_isMoney 339 = .ok (.iload 7, 2) := by decide +kernel
theorem dL_isMoney_341 : decode cL_isMoney 341 = .ok (.iload 9, 2) := by decide +kernel
theorem dL_isMoney_343 : decode cL_isMoney 343 = .ok (.invokevirtual 80, 3) := by decide +kernel
theorem dL_isMoney_346 : decode cL_isMoney 346 = .ok (.iadd, 1) := by decide +kernel
theorem dL_isMoney_347 : decode cL_isMoney 347 = .ok (.istore 5, 2) := by decide +kernel
theorem dL_isMoney_349 : decode cL_isMoney 349 = .ok (.iload 8, 2) := by decide +kernel
theorem dL_isMoney_351 : decode cL_isMoney 351 = .ok (.iload 9, 2) := by decide +kernel
theorem dL_isMoney_353 : decode cL_isMoney 353 = .ok (.aload_n 3, 1) := by decide +kernel
theorem dL_isMoney_354 : decode cL_isMoney 354 = .ok (.iconst 1, 1) := by decide +kernel
theorem dL_isMoney_355 : decode cL_isMoney 355 = .ok (.iaload, 1) := by decide +kernel
theorem dL_isMoney_356 : decode cL_isMoney 356 = .ok (.if_icmp .ge 14, 3) := by decide +kernel
theorem dL_isMoney_359 : decode cL_isMoney 359 = .ok (.aload_n 0, 1) := by decide +kernel
theorem dL_isMoney_360 : decode cL_isMoney 360 = .ok (.iload 7, 2) := by decide +kernel
theorem dL_isMoney_362 : decode cL_isMoney 362 = .ok (.iload 9, 2) := by decide +kernel
theorem dL_isMoney_364 : decode cL_isMoney 364 = .ok (.invokevirtual 80, 3) := by decide +kernel
theorem dL_isMoney_367 : decode cL_isMoney 367 = .ok (.goto 4, 3) := by decide +kernel
theorem dL_isMoney_370 : decode cL_isMoney 370 = .ok (.iconst 0, 1) := by decide +kernel
theorem dL_isMoney_371 : decode cL_isMoney 371 = .ok (.iadd, 1) := by decide +kernel
theorem dL_isMoney_372 : decode cL_isMoney 372 = .ok (.istore 8, 2) := by decide +kernel
theorem dL_isMoney_374 : decode cL_isMoney 374 = .ok (.iinc 9 1, 3) := by decide +kernel
theorem dL_isMoney_377 : decode cL_isMoney 377 = .ok (.goto (-151), 3) := by decide +kernel
theorem dL_isMoney_380 : decode cL_isMoney 380 = .ok (.iload 6, 2) := by decide +kernel
theorem dL_isMoney_382 : decode cL_isMoney 382 = .ok (.ifCond .eq 52, 3) := by decide +kernel
theorem dL_isMoney_385 : decode cL_isMoney 385 = .ok (.aload_n 0, 1) := by decide +kernel
theorem dL_isMoney_386 : decode cL_isMoney 386 = .ok (.iload 7, 2) := by decide +kernel
theorem dL_isMoney_388 : decode cL_isMoney 388 = .ok (.invokevirtual 83, 3) := by decide +kernel
theorem dL_isMoney_391 : decode cL_isMoney 391 = .ok (.iload 8, 2) := by decide +kernel
theorem dL_isMoney_393 : decode cL_isMoney 393 = .ok (.aload_n 0, 1) := by decide +kernel
theorem dL_isMoney_394 : decode cL_isMoney 394 = .ok (.iload 7, 2) := by decide +kernel
theorem dL_isMoney_396 : decode cL_isMoney 396 = .ok (.invokevirtual 86, 3) := by decide +kernel
theorem dL_isMoney_399 : decode cL_isMoney 399 = .ok (.isub, 1) := by decide +kernel
theorem dL_isMoney_400 : decode cL_isMoney 400 = .ok (.if_icmp .ne 34, 3) := by decide +kernel
theorem dL_isMoney_403 : decode cL_isMoney 403 = .ok (.aload_n 0, 1) := by decide +kernel
theorem dL_isMoney_404 : decode cL_isMoney 404 = .ok (.iload 7, 2) := by decide +kernel
theorem dL_isMoney_406 : decode cL_isMoney 406 = .ok (.invokevirtual 86, 3) := by decide +kernel
theorem dL_isMoney_409 : decode cL_isMoney 409 = .ok (.ifCond .lt 25, 3) := by decide +kernel
theorem dL_isMoney_412 : decode cL_isMoney 412 = .ok (.aload_n 0, 1) := by decide +kernel
theorem dL_isMoney_413 : decode cL_isMoney 413 = .ok (.bipush 6, 2) := by decide +kernel
theorem dL_isMoney_415 : decode cL_isMoney 415 = .ok (.iload 7, 2) := by decide +kernel
theorem dL_isMoney_417 : decode cL_isMoney 417 = .ok (.aload_n 3, 1) := by decide +kernel
theorem dL_isMoney_418 : decode cL_isMoney 418 = .ok (.iconst 1, 1) := by decide +kernel
theorem dL_isMoney_419 : decode cL_isMoney 419 = .ok (.iaload, 1) := by decide +kernel
theorem dL_isMoney_420 : decode cL_isMoney 420 = .ok (.iconst 1, 1) := by decide +kernel
theorem dL_isMoney_421 : decode cL_isMoney 421 = .ok (.iadd, 1) := by decide +kernel
theorem dL_isMoney_422 : decode cL_isMoney 422 = .ok (.invokestatic 113, 3) := by decide +kernel
theorem dL_isMoney_425 : decode cL_isMoney 425 = .ok (.ldc 93, 2) := by decide +kernel
theorem dL_isMoney_427 : decode cL_isMoney 427 = .ok (.if_icmp .ne 7, 3) := by decide +kernel
theorem dL_isMoney_430 : decode cL_isMoney 430 = .ok (.iconst 1, 1) := by decide +kernel
theorem dL_isMoney_431 : decode cL_isMoney 431 = .ok (.goto 4, 3) := by decide +kernel
theorem dL_isMoney_434 : decode cL_isMoney 434 = .ok (.iconst 0, 1) := by decide +kernel
theorem dL_isMoney_435 : decode cL_isMoney 435 = .ok (.istore 6, 2) := by decide +kernel
theorem dL_isMoney_437 : decode cL_isMoney 437 = .ok (.iinc 7 1, 3) := by decide +kernel
theorem dL_isMoney_440 : decode cL_isMoney 440 = .ok (.goto (-231), 3) := by decide +kernel
theorem dL_isMoney_443 : decode cL_isMoney 443 = .ok (.iload 6, 2) := by decide +kernel
theorem dL_isMoney_445 : decode cL_isMoney 445 = .ok (.ifCond .eq 41, 3) := by decide +kernel
theorem dL_isMoney_448 : decode cL_isMoney 448 = .ok (.iload 5, 2) := by decide +kernel
theorem dL_isMoney_450 : decode cL_isMoney 450 = .ok (.iload 4, 2) := by decide +kernel
theorem dL_isMoney_452 : decode cL_isMoney 452 = .ok (.if_icmp .ne 34, 3) := by decide +kernel
theorem dL_isMoney_455 : decode cL_isMoney 455 = .ok (.aload_n 0, 1) := by decide +kernel
theorem dL_isMoney_456 : decode cL_isMoney 456 = .ok (.bipush 7, 2) := by decide +kernel
theorem dL_isMoney_458 : decode cL_isMoney 458 = .ok (.iconst 5, 1) := by decide +kernel
theorem dL_isMoney_459 : decode cL_isMoney 459 = .ok (.iconst 0, 1) := by decide +kernel
theorem dL_isMoney_460 : decode cL_isMoney 460 = .ok (.invokestatic 113, 3) := by decide +kernel
theorem dL_isMoney_463 : decode cL_isMoney 463 = .ok (.ldc 92, 2) := by decide +kernel
theorem dL_isMoney_465 : decode cL_isMoney 465 = .ok (.if_icmp .ne 21, 3) := by decide +kernel
theorem dL_isMoney_468 : decode cL_isMoney 468 = .ok (.aload_n 0, 1) := by decide +kernel
theorem dL_isMoney_469 : decode cL_isMoney 469 = .ok (.bipush 9, 2) := by decide +kernel
theorem dL_isMoney_471 : decode cL_isMoney 471 = .ok (.bipush 10, 2) := by decide +kernel
theorem dL_isMoney_473 : decode cL_isMoney 473 = .ok (.iconst 0, 1) := by decide +kernel
theorem dL_isMoney_474 : decode cL_isMoney 474 = .ok (.invokestatic 113, 3) := by decide +kernel
theorem dL_isMoney_477 : decode cL_isMoney 477 = .ok (.ldc 92, 2) := by decide +kernel
theorem dL_isMoney_479 : decode cL_isMoney 479 = .ok (.if_icmp .ne 7, 3) := by decide +kernel
theorem dL_isMoney_482 : decode cL_isMoney 482 = .ok (.iconst 1, 1) := by decide +kernel
theorem dL_isMoney_483 : decode cL_isMoney 483 = .ok (.goto 4, 3) := by decide +kernel
theorem dL_isMoney_486 : decode cL_isMoney 486 = .ok (.iconst 0, 1) := by decide +kernel
theorem dL_isMoney_487 : decode cL_isMoney 487 = .ok (.ireturn, 1) := by decide +kernel
set_option maxRecDepth 20000 in
theorem ggL_areRides_L_asks : GoodIn wsL_areRides wsL_asks := goodIn_ca (goodIn_ca (goodIn_r _ [5, 6, 7, 1, 8, 9, 10, 11, 12, 13, 14, 15, 16, 17, 18, 19, 20, 21, 22, 23, 24, 25, 26, 27, 28, 29, 30, 31, 32, 33, 34, 35, 36, 37, 38, 39, 40, 41, 42, 43, 44, 45, 46, 47, 48, 49, 50, 51, 52, 53, 54, 55, 56, 57, 58, 59, 60, 61, 62, 63, 64, 65, 66, 67, 68, 69, 70, 71, 72, 73, 74, 75, 76, 77, 78, 79, 80, 81, 82, 83, 84, 85, 86, 87, 88, 89, 90, 91, 92, 93, 94, 95, 96, 97, 98, 99, 100, 101, 102, 103, 104, 105, 106, 107, 108, 109, 110, 111, 112, 113, 114, 115, 116, 117, 118, 119, 120, 121, 122, 123, 124, 125, 126, 127, 128, 129, 130, 131, 132, 133, 134, 135, 136, 137, 138, 139, 140, 141, 142, 143, 144, 145, 146, 147, 148, 149, 150, 151, 152, 153, 154, 155, 156, 157, 158, 159, 160, 161, 162, 163, 164, 165, 166, 167, 168, 169, 170, 171, 172, 173, 174, 175, 176, 180, 181, 182, 183, 184, 185, 186, 187, 188, 189, 190, 191, 192, 193, 194, 195, 196, 197, 198] (by decide +kernel) (by decide +kernel)) (goodIn_sub (fun _ h => List.mem_cons_of_mem _ (List.mem_append_left _ (List.mem_append_right _ h))) (by decide +kernel))) (goodIn_sub (fun _ h => List.mem_cons_of_mem _ (List.mem_append_right _ h)) (by decide +kernel))
set_option maxRecDepth 20000 in
theorem gL_areRides_L_asks : GoodIn wsL_areRides (va_wsS RL 113 yL_asks wsL_asks) := goodIn_app (goodIn_of _ (by decide +kernel)) ggL_areRides_L_asks
set_option maxRecDepth 20000 in
theorem ggL_areRides_X1_aboard : GoodIn wsL_areRides wsX1_aboard := goodIn_ca (goodIn_r _ [13, 14, 15, 16, 12, 17, 18, 19, 20, 21, 22, 23, 24, 25, 26, 27, 28, 29, 30, 31, 32, 33, 34, 35, 36, 37, 38, 39, 40, 41, 42, 43, 44, 45, 46, 47, 48, 49, 50, 180, 181, 182, 183, 184, 185, 186, 187, 188, 189, 190, 191, 192, 193, 194, 195, 196, 197, 198] (by decide +kernel) (by decide +kernel)) (goodIn_sub (fun _ h => List.mem_cons_of_mem _ (List.mem_append_left _ (List.mem_append_right _ h))) (by decide +kernel))
set_option maxRecDepth 20000 in
theorem gL_areRides_X1_aboard : GoodIn wsL_areRides (wsV RL 61 RX1 yX1_aboard wsX1_aboard) := goodIn_app (goodIn_of _ (by decide +kernel)) ggL_areRides_X1_aboard
set_option maxRecDepth 20000 in
theorem ggL_areRides_L_bits : GoodIn wsL_areRides wsL_bits := goodIn_r _ [179] (by decide +kernel) (by decide +kernel)
set_option maxRecDepth 20000 in
theorem gL_areRides_L_bits : GoodIn wsL_areRides (va_wsS RL 117 yL_bits wsL_bits) := goodIn_app (goodIn_of _ (by decide +kernel)) ggL_areRides_L_bits
set_option maxRecDepth 20000 in
theorem ggL_areRides_X1_isVoid : GoodIn wsL_areRides wsX1_isVoid := goodIn_ca (goodIn_r _ [66, 14, 15, 16, 12, 17, 18, 19, 20, 21, 22, 23, 24, 25, 26, 27, 28, 29, 30, 31, 32, 33, 34, 35, 36, 37, 38, 39, 40, 41, 42, 43, 44, 67, 68, 69, 48, 70, 62, 71, 72, 73, 74, 75, 76, 180, 181, 182, 183, 184, 185, 186, 187, 188, 189, 190, 191, 192, 193, 194, 195, 196, 197, 198] (by decide +kernel) (by decide +kernel)) (goodIn_sub (fun _ h => List.mem_cons_of_mem _ (List.mem_append_left _ (List.mem_append_right _ h))) (by decide +kernel))
set_option maxRecDepth 20000 in
theorem gL_areRides_X1_isVoid : GoodIn wsL_areRides (wsV RL 67 RX1 yX1_isVoid wsX1_isVoid) := goodIn_app (goodIn_of _ (by decide +kernel)) ggL_areRides_X1_isVoid
set_option maxRecDepth 20000 in
theorem ggL_areRides_X1_charge : GoodIn wsL_areRides wsX1_charge := goodIn_ca (goodIn_r _ [54, 14, 15, 16, 12, 17, 18, 19, 20, 21, 22, 23, 24, 25, 26, 27, 28, 29, 30, 31, 32, 33, 34, 35, 36, 37, 38, 39, 40, 41, 42, 43, 44, 55, 56, 57, 58, 59, 60, 48, 61, 62, 180, 181, 182, 183, 184, 185, 186, 187, 188, 189, 190, 191, 192, 193, 194, 195, 196, 197, 198] (by decide +kernel) (by decide +kernel)) (goodIn_sub (fun _ h => List.mem_cons_of_mem _ (List.mem_append_left _ (List.mem_append_right _ h))) (by decide +kernel))
set_option maxRecDepth 20000 in
theorem gL_areRides_X1_charge : GoodIn wsL_areRides (wsV RL 64 RX1 yX1_charge wsX1_charge) := goodIn_app (goodIn_of _ (by decide +kernel)) ggL_areRides_X1_charge
theorem dL_areRides_0 : decode cL_areRides 0 = .ok (.aload_n 0, 1) := by decide +kernel
theorem dL_areRides_1 : decode cL_areRides 1 = .ok (.iconst 0, 1) := by decide +kernel
theorem dL_areRides_2 : decode cL_areRides 2 = .ok (.aload_n 3, 1) := by decide +kernel
theorem dL_areRides_3 : decode cL_areRides 3 = .ok (.iconst 0, 1) := by decide +kernel
theorem dL_areRides_4 : decode cL_areRides 4 = .ok (.iaload, 1) := by decide +kernel
theorem dL_areRides_5 : decode cL_areRides 5 = .ok (.iconst 0, 1) := by decide +kernel
theorem dL_areRides_6 : decode cL_areRides 6 = .ok (.invokestatic 113, 3) := by decide +kernel
theorem dL_areRides_9 : decode cL_areRides 9 = .ok (.ldc 92, 2) := by decide +kernel
theorem dL_areRides_11 : decode cL_areRides 11 = .ok (.if_icmp .ne 33, 3) := by decide +kernel
theorem dL_areRides_14 : decode cL_areRides 14 = .ok (.aload_n 0, 1) := by decide +kernel
theorem dL_areRides_15 : decode cL_areRides 15 = .ok (.iconst 2, 1) := by decide +kernel
theorem dL_areRides_16 : decode cL_areRides 16 = .ok (.iconst (-1), 1) := by decide +kernel
theorem dL_areRides_17 : decode cL_areRides 17 = .ok (.iconst 0, 1) := by decide +kernel
theorem dL_areRides_18 : decode cL_areRides 18 = .ok (.invokestatic 113, 3) := by decide +kernel
theorem dL_areRides_21 : decode cL_areRides 21 = .ok (.ldc 92, 2) := by decide +kernel
theorem dL_areRides_23 : decode cL_areRides 23 = .ok (.if_icmp .ne 21, 3) := by decide +kernel
theorem dL_areRides_26 : decode cL_areRides 26 = .ok (.aload_n 0, 1) := by decide +kernel
theorem dL_areRides_27 : decode cL_areRides 27 = .ok (.iconst 1, 1) := by decide +kernel
theorem dL_areRides_28 : decode cL_areRides 28 = .ok (.aload_n 3, 1) := by decide +kernel
theorem dL_areRides_29 : decode cL_areRides 29 = .ok (.iconst 0, 1) := by decide +kernel
theorem dL_areRides_30 : decode cL_areRides 30 = .ok (.iaload, 1) := by decide +kernel
theorem dL_areRides_31 : decode cL_areRides 31 = .ok (.iconst 0, 1) := by decide +kernel
theorem dL_areRides_32 : decode cL_areRides 32 = .ok (.invokestatic 113, 3) := by decide +kernel
theorem dL_areRides_35 : decode cL_areRides 35 = .ok (.ldc 92, 2) := by decide +kernel
theorem dL_areRides_37 : decode cL_areRides 37 = .ok (.if_icmp .ne 7, 3) := by decide +kernel
theorem dL_areRides_40 : decode cL_areRides 40 = .ok (.iconst 1, 1) := by decide +kernel
theorem dL_areRides_41 : decode cL_areRides 41 = .ok (.goto 4, 3) := by decide +kernel
theorem dL_areRides_44 : decode cL_areRides 44 = .ok (.iconst 0, 1) := by decide +kernel
theorem dL_areRides_45 : decode cL_areRides 45 = .ok (.istore 4, 2) := by decide +kernel
theorem dL_areRides_47 : decode cL_areRides 47 = .ok (.iconst 0, 1) := by decide +kernel
theorem dL_areRides_48 : decode cL_areRides 48 = .ok (.istore 5, 2) := by decide +kernel
theorem dL_areRides_50 : decode cL_areRides 50 = .ok (.iload 5, 2) := by decide +kernel
theorem dL_areRides_52 : decode cL_areRides 52 = .ok (.aload_n 3, 1) := by decide +kernel
theorem dL_areRides_53 : decode cL_areRides 53 = .ok (.iconst 0, 1) := by decide +kernel
theorem dL_areRides_54 : decode cL_areRides 54 = .ok (.iaload, 1) := by decide +kernel
theorem dL_areRides_55 : decode cL_areRides 55 = .ok (.if_icmp .ge 145, 3) := by decide +kernel
theorem dL_areRides_58 : decode cL_areRides 58 = .ok (.iload 4, 2) := by decide +kernel
theorem dL_areRides_60 : decode cL_areRides 60 = .ok (.ifCond .eq 140, 3) := by decide +kernel
theorem dL_areRides_63 : decode cL_areRides 63 = .ok (.aload_n 0, 1) := by decide +kernel
theorem dL_areRides_64 : decode cL_areRides 64 = .ok (.iload 5, 2) := by decide +kernel
theorem dL_areRides_66 : decode cL_areRides 66 = .ok (.invokevirtual 61, 3) := by decide +kernel
theorem dL_areRides_69 : decode cL_areRides 69 = .ok (.istore 6, 2) := by decide +kernel
theorem dL_areRides_71 : decode cL_areRides 71 = .ok (.aload_n 1, 1) := by decide +kernel
theorem dL_areRides_72 : decode cL_areRides 72 = .ok (.bipush 20, 2) := by decide +kernel
theorem dL_areRides_74 : decode cL_areRides 74 = .ok (.iload 5, 2) := by decide +kernel
theorem dL_areRides_76 : decode cL_areRides 76 = .ok (.iadd, 1) := by decide +kernel
theorem dL_areRides_77 : decode cL_areRides 77 = .ok (.iaload, 1) := by decide +kernel
theorem dL_areRides_78 : decode cL_areRides 78 = .ok (.iconst 1, 1) := by decide +kernel
theorem dL_areRides_79 : decode cL_areRides 79 = .ok (.if_icmp .ne 7, 3) := by decide +kernel
theorem dL_areRides_82 : decode cL_areRides 82 = .ok (.iconst 1, 1) := by decide +kernel
theorem dL_areRides_83 : decode cL_areRides 83 = .ok (.goto 4, 3) := by decide +kernel
theorem dL_areRides_86 : decode cL_areRides 86 = .ok (.iconst 0, 1) := by decide +kernel
theorem dL_areRides_87 : decode cL_areRides 87 = .ok (.istore 7, 2) := by decide +kernel
theorem dL_areRides_89 : decode cL_areRides 89 = .ok (.iload 6, 2) := by decide +kernel
theorem dL_areRides_91 : decode cL_areRides 91 = .ok (.aload_n 2, 1) := by decide +kernel
theorem dL_areRides_92 : decode cL_areRides 92 = .ok (.iload 5, 2) := by decide +kernel
theorem dL_areRides_94 : decode cL_areRides 94 = .ok (.iaload, 1) := by decide +kernel
theorem dL_areRides_95 : decode cL_areRides 95 = .ok (.iand, 1) := by decide +kernel
theorem dL_areRides_96 : decode cL_areRides 96 = .ok (.ifCond .ne 56, 3) := by decide +kernel
theorem dL_areRides_99 : decode cL_areRides 99 = .ok (.iload 6, 2) := by decide +kernel
theorem dL_areRides_101 : decode cL_areRides 101 = .ok (.invokestatic 117, 3) := by decide +kernel
theorem dL_areRides_104 : decode cL_areRides 104 = .ok (.aload_n 2, 1) := by decide +kernel
theorem dL_areRides_105 : decode cL_areRides 105 = .ok (.iload 5, 2) := by decide +kernel
theorem dL_areRides_107 : decode cL_areRides 107 = .ok (.iaload, 1) := by decide +kernel
theorem dL_areRides_108 : decode cL_areRides 108 = .ok (.invokestatic 117, 3) := by decide +kernel
theorem dL_areRides_111 : decode cL_areRides 111 = .ok (.iadd, 1) := by decide +kernel
theorem dL_areRides_112 : decode cL_areRides 112 = .ok (.iconst 5, 1) := by decide +kernel
theorem dL_areRides_113 : decode cL_areRides 113 = .ok (.if_icmp .ge 39, 3) := by decide +kernel
theorem dL_areRides_116 : decode cL_areRides 116 = .ok (.iload 7, 2) := by decide +kernel
theorem dL_areRides_118 : decode cL_areRides 118 = .ok (.ifCond .eq 8, 3) := by decide +kernel
theorem dL_areRides_121 : decode cL_areRides 121 = .ok (.iload 6, 2) := by decide +kernel
theorem dL_areRides_123 : decode cL_areRides 123 = .ok (.ifCond .ne 29, 3) := by decide +kernel
theorem dL_areRides_126 : decode cL_areRides 126 = .ok (.iload 7, 2) := by decide +kernel
theorem dL_areRides_128 : decode cL_areRides 128 = .ok (.ifCond .ne 12, 3) := by decide +kernel
theorem dL_areRides_131 : decode cL_areRides 131 = .ok (.aload_n 0, 1) := by decide +kernel
theorem dL_areRides_132 : decode cL_areRides 132 = .ok (.iload 5, 2) := by decide +kernel
theorem dL_areRides_134 : decode cL_areRides 134 = .ok (.invokevirtual 67, 3) := by decide +kernel
theorem dL_areRides_137 : decode cL_areRides 137 = .ok (.ifCond .ne 15, 3) := by decide +kernel
theorem dL_areRides_140 : decode cL_areRides 140 = .ok (.iload 6, 2) := by decide +kernel
theorem dL_areRides_142 : decode cL_areRides 142 = .ok (.sipush 1024, 3) := by decide +kernel
theorem dL_areRides_145 : decode cL_areRides 145 = .ok (.if_icmp .ge 7, 3) := by decide +kernel
theorem dL_areRides_148 : decode cL_areRides 148 = .ok (.iconst 1, 1) := by decide +kernel
theorem dL_areRides_149 : decode cL_areRides 149 = .ok (.goto 4, 3) := by decide +kernel
theorem dL_areRides_152 : decode cL_areRides 152 = .ok (.iconst 0, 1) := by decide +kernel
theorem dL_areRides_153 : decode cL_areRides 153 = .ok (.istore 4, 2) := by decide +kernel
theorem dL_areRides_155 : decode cL_areRides 155 = .ok (.iconst 0, 1) := by decide +kernel
theorem dL_areRides_156 : decode cL_areRides 156 = .ok (.istore 8, 2) := by decide +kernel
theorem dL_areRides_158 : decode cL_areRides 158 = .ok (.iload 8, 2) := by decide +kernel
theorem dL_areRides_160 : decode cL_areRides 160 = .ok (.bipush 10, 2) := by decide +kernel
theorem dL_areRides_162 : decode cL_areRides 162 = .ok (.if_icmp .ge 32, 3) := by decide +kernel
theorem dL_areRides_165 : decode cL_areRides 165 = .ok (.iload 4, 2) := by decide +kernel
theorem dL_areRides_167 : decode cL_areRides 167 = .ok (.ifCond .eq 27, 3) := by decide +kernel
theorem dL_areRides_170 : decode cL_areRides 170 = .ok (.aload_n 0, 1) := by decide +kernel
theorem dL_areRides_171 : decode cL_areRides 171 = .ok (.iload 5, 2) := by decide +kernel
theorem dL_areRides_173 : decode cL_areRides 173 = .ok (.iload 8, 2) := by decide +kernel
theorem dL_areRides_175 : decode cL_areRides 175 = .ok (.invokevirtual 64, 3) := by decide +kernel
theorem dL_areRides_178 : decode cL_areRides 178 = .ok (.ifCond .lt 7, 3) := by decide +kernel
theorem dL_areRides_181 : decode cL_areRides 181 = .ok (.iconst 1, 1) := by decide +kernel
theorem dL_areRides_182 : decode cL_areRides 182 = .ok (.goto 4, 3) := by decide +kernel
theorem dL_areRides_185 : decode cL_areRides 185 = .ok (.iconst 0, 1) := by decide +kernel
theorem dL_areRides_186 : decode cL_areRides 186 = .ok (.istore 4, 2) := by decide +kernel
theorem dL_areRides_188 : decode cL_areRides 188 = .ok (.iinc 8 1, 3) := by decide +kernel
theorem dL_areRides_191 : decode cL_areRides 191 = .ok (.goto (-33), 3) := by decide +kernel
theorem dL_areRides_194 : decode cL_areRides 194 = .ok (.iinc 5 1, 3) := by decide +kernel
theorem dL_areRides_197 : decode cL_areRides 197 = .ok (.goto (-147), 3) := by decide +kernel
theorem dL_areRides_200 : decode cL_areRides 200 = .ok (.iload 4, 2) := by decide +kernel
theorem dL_areRides_202 : decode cL_areRides 202 = .ok (.ireturn, 1) := by decide +kernel
set_option maxRecDepth 20000 in
theorem ggL_isSeat_L_does : GoodIn wsL_isSeat wsL_does := goodIn_ca (goodIn_ca (goodIn_ca (goodIn_r _ [4, 5, 6, 7, 8, 9, 3, 10, 11, 12, 13, 14, 15, 16, 17, 18, 19, 20, 21, 22, 23, 24, 25, 26, 27, 28, 29, 30, 31, 32, 33, 34, 35, 36, 37, 38, 39, 40, 41, 42, 43, 44, 45, 46, 47, 48, 49, 50, 51, 52, 53, 54, 55, 56, 57, 58, 59, 60, 61, 62, 63, 64, 65, 66, 67, 68, 69, 70, 71, 72, 73, 74, 75, 76, 77, 78, 79, 80, 81, 82, 83, 84, 85, 86, 87, 88, 89, 90, 91, 92, 93, 94, 95, 96, 97, 98, 99, 100, 101, 102, 103, 104, 105, 106, 107, 108, 109, 110, 111, 112, 113, 114, 115, 116, 117, 118, 119, 120, 121, 122, 123, 124, 125, 126, 127, 128, 129, 130, 131, 132, 133, 134, 135, 136, 137, 138, 139, 140, 141, 142, 143, 144, 145, 146, 147, 148, 149, 150, 151, 152, 153, 154, 155, 156, 157, 158, 159, 160, 161, 162, 163, 164, 165, 166, 167, 168, 169, 170, 171, 172, 173, 174, 175, 176, 177, 178, 179, 180, 181, 182, 183, 184, 185, 186, 187, 188, 189, 190, 191, 192, 193, 194, 195, 196, 197, 198, 199, 200, 201, 202, 203, 204, 205, 206, 207, 208, 209, 210, 211, 212, 213, 214, 215, 216, 217, 218, 219, 220, 221, 222, 223, 224, 225, 226, 227, 228, 229, 230, 231, 232, 233, 234, 235, 236, 237, 238, 239, 240, 241, 242, 243, 244, 245, 246, 247, 248, 249, 250, 251, 252, 253, 254, 255, 256, 257, 258, 259, 260, 261, 262, 263, 264, 265, 266, 267, 268, 269, 270, 271, 272, 273, 274, 275, 276, 277, 278, 279, 280, 281, 282, 283, 284, 285, 286, 287, 288, 289, 290, 291, 292, 293, 294, 295, 296, 297, 298, 299, 300, 301, 302, 303, 304, 305, 306, 307, 308, 309, 310, 311, 312, 313, 314, 315, 316, 317, 318, 319, 320, 321, 322, 323, 339, 340, 341, 342, 343, 344, 345, 346, 347, 348, 349, 350, 351, 352, 353, 354, 355, 356, 357] (by decide +kernel) (by decide +kernel)) (goodIn_sub (fun _ h => List.mem_cons_of_mem _ (List.mem_append_left _ (List.mem_append_left _ (List.mem_append_right _ h)))) (by decide +kernel))) (goodIn_sub (fun _ h => List.mem_cons_of_mem _ (List.mem_append_left _ (List.mem_append_right _ h))) (by decide +kernel))) (goodIn_sub (fun _ h => List.mem_cons_of_mem _ (List.mem_append_right _ h)) (by decide +kernel))
set_option maxRecDepth 20000 in
theorem gL_isSeat_L_does : GoodIn wsL_isSeat (va_wsS RL 120 yL_does wsL_does) := goodIn_app (goodIn_of _ (by decide +kernel)) ggL_isSeat_L_does
set_option maxRecDepth 20000 in
theorem ggL_isSeat_X1_aboard : GoodIn wsL_isSeat wsX1_aboard := goodIn_ca (goodIn_r _ [327, 148, 149, 150, 14, 151, 37, 38, 29, 49, 39, 40, 41, 42, 43, 44, 50, 51, 52, 53, 54, 55, 56, 57, 58, 59, 60, 61, 62, 63, 64, 65, 66, 328, 329, 330, 32, 331, 170, 339, 340, 341, 342, 343, 355, 356, 357, 344, 345, 346, 347, 348, 349, 350, 351, 352, 353, 354] (by decide +kernel) (by decide +kernel)) (goodIn_sub (fun _ h => List.mem_cons_of_mem _ (List.mem_append_right _ h)) (by decide +kernel))
set_option maxRecDepth 20000 in
theorem gL_isSeat_X1_aboard : GoodIn wsL_isSeat (wsV RL 61 RX1 yX1_aboard wsX1_aboard) := goodIn_app (goodIn_of _ (by decide +kernel)) ggL_isSeat_X1_aboard
set_option maxRecDepth 20000 in
theorem ggL_isSeat_L_bits : GoodIn wsL_isSeat wsL_bits := goodIn_r _ [334] (by decide +kernel) (by decide +kernel)
set_option maxRecDepth 20000 in
theorem gL_isSeat_L_bits : GoodIn wsL_isSeat (va_wsS RL 117 yL_bits wsL_bits) := goodIn_app (goodIn_of _ (by decide +kernel)) ggL_isSeat_L_bits
set_option maxRecDepth 20000 in
theorem ggL_isSeat_X1_charge : GoodIn wsL_isSeat wsX1_charge := goodIn_ca (goodIn_r _ [338, 148, 149, 150, 14, 151, 37, 38, 29, 49, 39, 40, 41, 42, 43, 44, 50, 51, 52, 53, 54, 55, 56, 57, 58, 59, 60, 61, 62, 63, 64, 65, 66, 152, 153, 154, 211, 212, 213, 32, 214, 85, 339, 340, 341, 342, 343, 355, 356, 357, 344, 345, 346, 347, 348, 349, 350, 351, 352, 353, 354] (by decide +kernel) (by decide +kernel)) (goodIn_sub (fun _ h => List.mem_cons_of_mem _ (List.mem_append_right _ h)) (by decide +kernel))
set_option maxRecDepth 20000 in
theorem gL_isSeat_X1_charge : GoodIn wsL_isSeat (wsV RL 64 RX1 yX1_charge wsX1_charge) := goodIn_app (goodIn_of _ (by decide +kernel)) ggL_isSeat_X1_charge
theorem dL_isSeat_0 : decode cL_isSeat 0 = .ok (.iload 5, 2) := by decide +kernel
theorem dL_isSeat_2 : decode cL_isSeat 2 = .ok (.aload_n 3, 1) := by decide +kernel
theorem dL_isSeat_3 : decode cL_isSeat 3 = .ok (.iconst 0, 1) := by decide +kernel
theorem dL_isSeat_4 : decode cL_isSeat 4 = .ok (.iaload, 1) := by decide +kernel
theorem dL_isSeat_5 : decode cL_isSeat 5 = .ok (.if_icmp .ge 10, 3) := by decide +kernel
theorem dL_isSeat_8 : decode cL_isSeat 8 = .ok (.iload 6, 2) := by decide +kernel
theorem dL_isSeat_10 : decode cL_isSeat 10 = .ok (.bipush 9, 2) := by decide +kernel
theorem dL_isSeat_12 : decode cL_isSeat 12 = .ok (.if_icmp .le 26, 3) := by decide +kernel
theorem dL_isSeat_15 : decode cL_isSeat 15 = .ok (.aload_n 0, 1) := by decide +kernel
theorem dL_isSeat_16 : decode cL_isSeat 16 = .ok (.iload 4, 2) := by decide +kernel
theorem dL_isSeat_18 : decode cL_isSeat 18 = .ok (.iload 5, 2) := by decide +kernel
theorem dL_isSeat_20 : decode cL_isSeat 20 = .ok (.iload 6, 2) := by decide +kernel
theorem dL_isSeat_22 : decode cL_isSeat 22 = .ok (.iconst 0, 1) := by decide +kernel
theorem dL_isSeat_23 : decode cL_isSeat 23 = .ok (.iconst 0, 1) := by decide +kernel
theorem dL_isSeat_24 : decode cL_isSeat 24 = .ok (.invokestatic 120, 3) := by decide +kernel
theorem dL_isSeat_27 : decode cL_isSeat 27 = .ok (.bipush (-30), 2) := by decide +kernel
theorem dL_isSeat_29 : decode cL_isSeat 29 = .ok (.if_icmp .ne 7, 3) := by decide +kernel
theorem dL_isSeat_32 : decode cL_isSeat 32 = .ok (.iconst 1, 1) := by decide +kernel
theorem dL_isSeat_33 : decode cL_isSeat 33 = .ok (.goto 4, 3) := by decide +kernel
theorem dL_isSeat_36 : decode cL_isSeat 36 = .ok (.iconst 0, 1) := by decide +kernel
theorem dL_isSeat_37 : decode cL_isSeat 37 = .ok (.ireturn, 1) := by decide +kernel
theorem dL_isSeat_38 : decode cL_isSeat 38 = .ok (.aload_n 0, 1) := by decide +kernel
theorem dL_isSeat_39 : decode cL_isSeat 39 = .ok (.iload 5, 2) := by decide +kernel
theorem dL_isSeat_41 : decode cL_isSeat 41 = .ok (.invokevirtual 61, 3) := by decide +kernel
theorem dL_isSeat_44 : decode cL_isSeat 44 = .ok (.istore 7, 2) := by decide +kernel
theorem dL_isSeat_46 : decode cL_isSeat 46 = .ok (.iload 7, 2) := by decide +kernel
theorem dL_isSeat_48 : decode cL_isSeat 48 = .ok (.iload 6, 2) := by decide +kernel
theorem dL_isSeat_50 : decode cL_isSeat 50 = .ok (.ishr, 1) := by decide +kernel
theorem dL_isSeat_51 : decode cL_isSeat 51 = .ok (.iconst 1, 1) := by decide +kernel
theorem dL_isSeat_52 : decode cL_isSeat 52 = .ok (.iand, 1) := by decide +kernel
theorem dL_isSeat_53 : decode cL_isSeat 53 = .ok (.iconst 1, 1) := by decide +kernel
theorem dL_isSeat_54 : decode cL_isSeat 54 = .ok (.if_icmp .ne 7, 3) := by decide +kernel
theorem dL_isSeat_57 : decode cL_isSeat 57 = .ok (.iconst 1, 1) := by decide +kernel
theorem dL_isSeat_58 : decode cL_isSeat 58 = .ok (.goto 4, 3) := by decide +kernel
theorem dL_isSeat_61 : decode cL_isSeat 61 = .ok (.iconst 0, 1) := by decide +kernel
theorem dL_isSeat_62 : decode cL_isSeat 62 = .ok (.istore 8, 2) := by decide +kernel
theorem dL_isSeat_64 : decode cL_isSeat 64 = .ok (.aload_n 2, 1) := by decide +kernel
theorem dL_isSeat_65 : decode cL_isSeat 65 = .ok (.iload 5, 2) := by decide +kernel
theorem dL_isSeat_67 : decode cL_isSeat 67 = .ok (.iaload, 1) := by decide +kernel
theorem dL_isSeat_68 : decode cL_isSeat 68 = .ok (.iload 6, 2) := by decide +kernel
theorem dL_isSeat_70 : decode cL_isSeat 70 = .ok (.ishr, 1) := by decide +kernel
theorem dL_isSeat_71 : decode cL_isSeat 71 = .ok (.iconst 1, 1) := by decide +kernel
theorem dL_isSeat_72 : decode cL_isSeat 72 = .ok (.iand, 1) := by decide +kernel
theorem dL_isSeat_73 : decode cL_isSeat 73 = .ok (.iconst 1, 1) := by decide +kernel
theorem dL_isSeat_74 : decode cL_isSeat 74 = .ok (.if_icmp .ne 7, 3) := by decide +kernel
theorem dL_isSeat_77 : decode cL_isSeat 77 = .ok (.iconst 1, 1) := by decide +kernel
theorem dL_isSeat_78 : decode cL_isSeat 78 = .ok (.goto 4, 3) := by decide +kernel
theorem dL_isSeat_81 : decode cL_isSeat 81 = .ok (.iconst 0, 1) := by decide +kernel
theorem dL_isSeat_82 : decode cL_isSeat 82 = .ok (.istore 9, 2) := by decide +kernel
theorem dL_isSeat_84 : decode cL_isSeat 84 = .ok (.iconst 4, 1) := by decide +kernel
theorem dL_isSeat_85 : decode cL_isSeat 85 = .ok (.iload 7, 2) := by decide +kernel
theorem dL_isSeat_87 : decode cL_isSeat 87 = .ok (.invokestatic 117, 3) := by decide +kernel
theorem dL_isSeat_90 : decode cL_isSeat 90 = .ok (.isub, 1) := by decide +kernel
theorem dL_isSeat_91 : decode cL_isSeat 91 = .ok (.aload_n 2, 1) := by decide +kernel
theorem dL_isSeat_92 : decode cL_isSeat 92 = .ok (.iload 5, 2) := by decide +kernel
theorem dL_isSeat_94 : decode cL_isSeat 94 = .ok (.iaload, 1) := by decide +kernel
theorem dL_isSeat_95 : decode cL_isSeat 95 = .ok (.invokestatic 117, 3) := by decide +kernel
theorem dL_isSeat_98 : decode cL_isSeat 98 = .ok (.isub, 1) := by decide +kernel
theorem dL_isSeat_99 : decode cL_isSeat 99 = .ok (.istore 10, 2) := by decide +kernel
theorem dL_isSeat_101 : decode cL_isSeat 101 = .ok (.aload_n 0, 1) := by decide +kernel
theorem dL_isSeat_102 : decode cL_isSeat 102 = .ok (.iload 5, 2) := by decide +kernel
theorem dL_isSeat_104 : decode cL_isSeat 104 = .ok (.iload 6, 2) := by decide +kernel
theorem dL_isSeat_106 : decode cL_isSeat 106 = .ok (.invokevirtual 64, 3) := by decide +kernel
theorem dL_isSeat_109 : decode cL_isSeat 109 = .ok (.istore 11, 2) := by decide +kernel
theorem dL_isSeat_111 : decode cL_isSeat 111 = .ok (.aload_n 1, 1) := by decide +kernel
theorem dL_isSeat_112 : decode cL_isSeat 112 = .ok (.bipush 20, 2) := by decide +kernel
theorem dL_isSeat_114 : decode cL_isSeat 114 = .ok (.iload 5, 2) := by decide +kernel
theorem dL_isSeat_116 : decode cL_isSeat 116 = .ok (.iadd, 1) := by decide +kernel
theorem dL_isSeat_117 : decode cL_isSeat 117 = .ok (.iaload, 1) := by decide +kernel
theorem dL_isSeat_118 : decode cL_isSeat 118 = .ok (.ifCond .ne 74, 3) := by decide +kernel
theorem dL_isSeat_121 : decode cL_isSeat 121 = .ok (.iload 4, 2) := by decide +kernel
theorem dL_isSeat_123 : decode cL_isSeat 123 = .ok (.iconst 2, 1) := by decide +kernel
theorem dL_isSeat_124 : decode cL_isSeat 124 = .ok (.if_icmp .ne 21, 3) := by decide +kernel
theorem dL_isSeat_127 : decode cL_isSeat 127 = .ok (.iload 10, 2) := by decide +kernel
theorem dL_isSeat_129 : decode cL_isSeat 129 = .ok (.ifCond .le 63, 3) := by decide +kernel
theorem dL_isSeat_132 : decode cL_isSeat 132 = .ok (.iload 9, 2) := by decide +kernel
theorem dL_isSeat_134 : decode cL_isSeat 134 = .ok (.ifCond .ne 58, 3) := by decide +kernel
theorem dL_isSeat_137 : decode cL_isSeat 137 = .ok (.iload 8, 2) := by decide +kernel
theorem dL_isSeat_139 : decode cL_isSeat 139 = .ok (.ifCond .ne 53, 3) := by decide +kernel
theorem dL_isSeat_142 : decode cL_isSeat 142 = .ok (.goto 46, 3) := by decide +kernel
theorem dL_isSeat_145 : decode cL_isSeat 145 = .ok (.iload 4, 2) := by decide +kernel
theorem dL_isSeat_147 : decode cL_isSeat 147 = .ok (.iconst 3, 1) := by decide +kernel
theorem dL_isSeat_148 : decode cL_isSeat 148 = .ok (.if_icmp .ne 11, 3) := by decide +kernel
theorem dL_isSeat_151 : decode cL_isSeat 151 = .ok (.iload 9, 2) := by decide +kernel
theorem dL_isSeat_153 : decode cL_isSeat 153 = .ok (.ifCond .eq 39, 3) := by decide +kernel
theorem dL_isSeat_156 : decode cL_isSeat 156 = .ok (.goto 32, 3) := by decide +kernel
theorem dL_isSeat_159 : decode cL_isSeat 159 = .ok (.iload 4, 2) := by decide +kernel
theorem dL_isSeat_161 : decode cL_isSeat 161 = .ok (.iconst 4, 1) := by decide +kernel
theorem dL_isSeat_162 : decode cL_isSeat 162 = .ok (.if_icmp .ne 21, 3) := by decide +kernel
theorem dL_isSeat_165 : decode cL_isSeat 165 = .ok (.iload 8, 2) := by decide +kernel
theorem dL_isSeat_167 : decode cL_isSeat 167 = .ok (.ifCond .ne 25, 3) := by decide +kernel
theorem dL_isSeat_170 : decode cL_isSeat 170 = .ok (.iload 9, 2) := by decide +kernel
theorem dL_isSeat_172 : decode cL_isSeat 172 = .ok (.ifCond .ne 16, 3) := by decide +kernel
theorem dL_isSeat_175 : decode cL_isSeat 175 = .ok (.iload 10, 2) := by decide +kernel
theorem dL_isSeat_177 : decode cL_isSeat 177 = .ok (.ifCond .le 15, 3) := by decide +kernel
theorem dL_isSeat_180 : decode cL_isSeat 180 = .ok (.goto 8, 3) := by decide +kernel
theorem dL_isSeat_183 : decode cL_isSeat 183 = .ok (.iload 8, 2) := by decide +kernel
theorem dL_isSeat_185 : decode cL_isSeat 185 = .ok (.ifCond .eq 7, 3) := by decide +kernel
theorem dL_isSeat_188 : decode cL_isSeat 188 = .ok (.iconst 1, 1) := by decide +kernel
theorem dL_isSeat_189 : decode cL_isSeat 189 = .ok (.goto 4, 3) := by decide +kernel
theorem dL_isSeat_192 : decode cL_isSeat 192 = .ok (.iconst 0, 1) := by decide +kernel
theorem dL_isSeat_193 : decode cL_isSeat 193 = .ok (.istore 12, 2) := by decide +kernel
theorem dL_isSeat_195 : decode cL_isSeat 195 = .ok (.iload 12, 2) := by decide +kernel
theorem dL_isSeat_197 : decode cL_isSeat 197 = .ok (.ifCond .ne 8, 3) := by decide +kernel
theorem dL_isSeat_200 : decode cL_isSeat 200 = .ok (.bipush (-10), 2) := by decide +kernel
theorem dL_isSeat_202 : decode cL_isSeat 202 = .ok (.goto 54, 3) := by decide +kernel
theorem dL_isSeat_205 : decode cL_isSeat 205 = .ok (.iload 4, 2) := by decide +kernel
theorem dL_isSeat_207 : decode cL_isSeat 207 = .ok (.iconst 2, 1) := by decide +kernel
theorem dL_isSeat_208 : decode cL_isSeat 208 = .ok (.if_icmp .ne 10, 3) := by decide +kernel
theorem dL_isSeat_211 : decode cL_isSeat 211 = .ok (.iload 10, 2) := by decide +kernel
theorem dL_isSeat_213 : decode cL_isSeat 213 = .ok (.iconst 1, 1) := by decide +kernel
theorem dL_isSeat_214 : decode cL_isSeat 214 = .ok (.isub, 1) := by decide +kernel
theorem dL_isSeat_215 : decode cL_isSeat 215 = .ok (.goto 41, 3) := by decide +kernel
theorem dL_isSeat_218 : decode cL_isSeat 218 = .ok (.iload 4, 2) := by decide +kernel
theorem dL_isSeat_220 : decode cL_isSeat 220 = .ok (.iconst 3, 1) := by decide +kernel
theorem dL_isSeat_221 : decode cL_isSeat 221 = .ok (.if_icmp .ne 17, 3) := by decide +kernel
theorem dL_isSeat_224 : decode cL_isSeat 224 = .ok (.sipush 250, 3) := by decide +kernel
theorem dL_isSeat_227 : decode cL_isSeat 227 = .ok (.aload_n 1, 1) := by decide +kernel
theorem dL_isSeat_228 : decode cL_isSeat 228 = .ok (.bipush 40, 2) := by decide +kernel
theorem dL_isSeat_230 : decode cL_isSeat 230 = .ok (.iload 5, 2) := by decide +kernel
theorem dL_isSeat_232 : decode cL_isSeat 232 = .ok (.iadd, 1) := by decide +kernel
theorem dL_isSeat_233 : decode cL_isSeat 233 = .ok (.iaload, 1) := by decide +kernel
theorem dL_isSeat_234 : decode cL_isSeat 234 = .ok (.imul, 1) := by decide +kernel
theorem dL_isSeat_235 : decode cL_isSeat 235 = .ok (.goto 21, 3) := by decide +kernel
theorem dL_isSeat_238 : decode cL_isSeat 238 = .ok (.iload 4, 2) := by decide +kernel
theorem dL_isSeat_240 : decode cL_isSeat 240 = .ok (.iconst 4, 1) := by decide +kernel
theorem dL_isSeat_241 : decode cL_isSeat 241 = .ok (.if_icmp .ne 13, 3) := by decide +kernel
theorem dL_isSeat_244 : decode cL_isSeat 244 = .ok (.iload 7, 2) := by decide +kernel
theorem dL_isSeat_246 : decode cL_isSeat 246 = .ok (.invokestatic 117, 3) := by decide +kernel
theorem dL_isSeat_249 : decode cL_isSeat 249 = .ok (.iconst 1, 1) := by decide +kernel
theorem dL_isSeat_250 : decode cL_isSeat 250 = .ok (.iadd, 1) := by decide +kernel
theorem dL_isSeat_251 : decode cL_isSeat 251 = .ok (.goto 5, 3) := by decide +kernel
theorem dL_isSeat_254 : decode cL_isSeat 254 = .ok (.iload 11, 2) := by decide +kernel
theorem dL_isSeat_256 : decode cL_isSeat 256 = .ok (.istore 13, 2) := by decide +kernel
theorem dL_isSeat_258 : decode cL_isSeat 258 = .ok (.aload_n 2, 1) := by decide +kernel
theorem dL_isSeat_259 : decode cL_isSeat 259 = .ok (.iload 5, 2) := by decide +kernel
theorem dL_isSeat_261 : decode cL_isSeat 261 = .ok (.iload 12, 2) := by decide +kernel
theorem dL_isSeat_263 : decode cL_isSeat 263 = .ok (.ifCond .eq 9, 3) := by decide +kernel
theorem dL_isSeat_266 : decode cL_isSeat 266 = .ok (.iload 4, 2) := by decide +kernel
theorem dL_isSeat_268 : decode cL_isSeat 268 = .ok (.iconst 5, 1) := by decide +kernel
theorem dL_isSeat_269 : decode cL_isSeat 269 = .ok (.if_icmp .ne 10, 3) := by decide +kernel
theorem dL_isSeat_272 : decode cL_isSeat 272 = .ok (.aload_n 2, 1) := by decide +kernel
theorem dL_isSeat_273 : decode cL_isSeat 273 = .ok (.iload 5, 2) := by decide +kernel
theorem dL_isSeat_275 : decode cL_isSeat 275 = .ok (.iaload, 1) := by decide +kernel
theorem dL_isSeat_276 : decode cL_isSeat 276 = .ok (.goto 32, 3) := by decide +kernel
theorem dL_isSeat_279 : decode cL_isSeat 279 = .ok (.iload 4, 2) := by decide +kernel
theorem dL_isSeat_281 : decode cL_isSeat 281 = .ok (.iconst 2, 1) := by decide +kernel
theorem dL_isSeat_282 : decode cL_isSeat 282 = .ok (.if_icmp .ne 15, 3) := by decide +kernel
theorem dL_isSeat_285 : decode cL_isSeat 285 = .ok (.aload_n 2, 1) := by decide +kernel
theorem dL_isSeat_286 : decode cL_isSeat 286 = .ok (.iload 5, 2) := by decide +kernel
theorem dL_isSeat_288 : decode cL_isSeat 288 = .ok (.iaload, 1) := by decide +kernel
theorem dL_isSeat_289 : decode cL_isSeat 289 = .ok (.iconst 1, 1) := by decide +kernel
theorem dL_isSeat_290 : decode cL_isSeat 290 = .ok (.iload 6, 2) := by decide +kernel
theorem dL_isSeat_292 : decode cL_isSeat 292 = .ok (.ishl, 1) := by decide +kernel
theorem dL_isSeat_293 : decode cL_isSeat 293 = .ok (.ior, 1) := by decide +kernel
theorem dL_isSeat_294 : decode cL_isSeat 294 = .ok (.goto 14, 3) := by decide +kernel
theorem dL_isSeat_297 : decode cL_isSeat 297 = .ok (.aload_n 2, 1) := by decide +kernel
theorem dL_isSeat_298 : decode cL_isSeat 298 = .ok (.iload 5, 2) := by decide +kernel
theorem dL_isSeat_300 : decode cL_isSeat 300 = .ok (.iaload, 1) := by decide +kernel
theorem dL_isSeat_301 : decode cL_isSeat 301 = .ok (.iconst 1, 1) := by decide +kernel
theorem dL_isSeat_302 : decode cL_isSeat 302 = .ok (.iload 6, 2) := by decide +kernel
theorem dL_isSeat_304 : decode cL_isSeat 304 = .ok (.ishl, 1) := by decide +kernel
theorem dL_isSeat_305 : decode cL_isSeat 305 = .ok (.iconst (-1), 1) := by decide +kernel
theorem dL_isSeat_306 : decode cL_isSeat 306 = .ok (.ixor, 1) := by decide +kernel
theorem dL_isSeat_307 : decode cL_isSeat 307 = .ok (.iand, 1) := by decide +kernel
theorem dL_isSeat_308 : decode cL_isSeat 308 = .ok (.iastore, 1) := by decide +kernel
theorem dL_isSeat_309 : decode cL_isSeat 309 = .ok (.aload_n 0, 1) := by decide +kernel
theorem dL_isSeat_310 : decode cL_isSeat 310 = .ok (.iload 4, 2) := by decide +kernel
theorem dL_isSeat_312 : decode cL_isSeat 312 = .ok (.iload 5, 2) := by decide +kernel
theorem dL_isSeat_314 : decode cL_isSeat 314 = .ok (.iload 6, 2) := by decide +kernel
theorem dL_isSeat_316 : decode cL_isSeat 316 = .ok (.iconst 0, 1) := by decide +kernel
theorem dL_isSeat_317 : decode cL_isSeat 317 = .ok (.iconst 0, 1) := by decide +kernel
theorem dL_isSeat_318 : decode cL_isSeat 318 = .ok (.invokestatic 120, 3) := by decide +kernel
theorem dL_isSeat_321 : decode cL_isSeat 321 = .ok (.iload 13, 2) := by decide +kernel
theorem dL_isSeat_323 : decode cL_isSeat 323 = .ok (.if_icmp .ne 7, 3) := by decide +kernel
theorem dL_isSeat_326 : decode cL_isSeat 326 = .ok (.iconst 1, 1) := by decide +kernel
theorem dL_isSeat_327 : decode cL_isSeat 327 = .ok (.goto 4, 3) := by decide +kernel
theorem dL_isSeat_330 : decode cL_isSeat 330 = .ok (.iconst 0, 1) := by decide +kernel
theorem dL_isSeat_331 : decode cL_isSeat 331 = .ok (.istore 14, 2) := by decide +kernel
theorem dL_isSeat_333 : decode cL_isSeat 333 = .ok (.iload 14, 2) := by decide +kernel
theorem dL_isSeat_335 : decode cL_isSeat 335 = .ok (.ifCond .eq 68, 3) := by decide +kernel
theorem dL_isSeat_338 : decode cL_isSeat 338 = .ok (.aload_n 0, 1) := by decide +kernel
theorem dL_isSeat_339 : decode cL_isSeat 339 = .ok (.iload 5, 2) := by decide +kernel
theorem dL_isSeat_341 : decode cL_isSeat 341 = .ok (.iload 6, 2) := by decide +kernel
theorem dL_isSeat_343 : decode cL_isSeat 343 = .ok (.invokevirtual 64, 3) := by decide +kernel
theorem dL_isSeat_346 : decode cL_isSeat 346 = .ok (.iload 11, 2) := by decide +kernel
theorem dL_isSeat_348 : decode cL_isSeat 348 = .ok (.iload 12, 2) := by decide +kernel
theorem dL_isSeat_350 : decode cL_isSeat 350 = .ok (.ifCond .eq 14, 3) := by decide +kernel
theorem dL_isSeat_353 : decode cL_isSeat 353 = .ok (.iload 4, 2) := by decide +kernel
theorem dL_isSeat_355 : decode cL_isSeat 355 = .ok (.iconst 3, 1) := by decide +kernel
theorem dL_isSeat_356 : decode cL_isSeat 356 = .ok (.if_icmp .ne 8, 3) := by decide +kernel
theorem dL_isSeat_359 : decode cL_isSeat 359 = .ok (.iload 13, 2) := by decide +kernel
theorem dL_isSeat_361 : decode cL_isSeat 361 = .ok (.goto 4, 3) := by decide +kernel
theorem dL_isSeat_364 : decode cL_isSeat 364 = .ok (.iconst 0, 1) := by decide +kernel
theorem dL_isSeat_365 : decode cL_isSeat 365 = .ok (.iadd, 1) := by decide +kernel
theorem dL_isSeat_366 : decode cL_isSeat 366 = .ok (.if_icmp .ne 37, 3) := by decide +kernel
theorem dL_isSeat_369 : decode cL_isSeat 369 = .ok (.iload 12, 2) := by decide +kernel
theorem dL_isSeat_371 : decode cL_isSeat 371 = .ok (.ifCond .eq 28, 3) := by decide +kernel
theorem dL_isSeat_374 : decode cL_isSeat 374 = .ok (.aload_n 0, 1) := by decide +kernel
theorem dL_isSeat_375 : decode cL_isSeat 375 = .ok (.iload 5, 2) := by decide +kernel
theorem dL_isSeat_377 : decode cL_isSeat 377 = .ok (.invokevirtual 61, 3) := by decide +kernel
theorem dL_isSeat_380 : decode cL_isSeat 380 = .ok (.iload 6, 2) := by decide +kernel
theorem dL_isSeat_382 : decode cL_isSeat 382 = .ok (.ishr, 1) := by decide +kernel
theorem dL_isSeat_383 : decode cL_isSeat 383 = .ok (.iconst 1, 1) := by decide +kernel
theorem dL_isSeat_384 : decode cL_isSeat 384 = .ok (.iand, 1) := by decide +kernel
theorem dL_isSeat_385 : decode cL_isSeat 385 = .ok (.iload 4, 2) := by decide +kernel
theorem dL_isSeat_387 : decode cL_isSeat 387 = .ok (.iconst 4, 1) := by decide +kernel
theorem dL_isSeat_388 : decode cL_isSeat 388 = .ok (.if_icmp .ne 7, 3) := by decide +kernel
theorem dL_isSeat_391 : decode cL_isSeat 391 = .ok (.iconst 1, 1) := by decide +kernel
theorem dL_isSeat_392 : decode cL_isSeat 392 = .ok (.goto 4, 3) := by decide +kernel
theorem dL_isSeat_395 : decode cL_isSeat 395 = .ok (.iconst 0, 1) := by decide +kernel
theorem dL_isSeat_396 : decode cL_isSeat 396 = .ok (.if_icmp .ne 7, 3) := by decide +kernel
theorem dL_isSeat_399 : decode cL_isSeat 399 = .ok (.iconst 1, 1) := by decide +kernel
theorem dL_isSeat_400 : decode cL_isSeat 400 = .ok (.goto 4, 3) := by decide +kernel
theorem dL_isSeat_403 : decode cL_isSeat 403 = .ok (.iconst 0, 1) := by decide +kernel
theorem dL_isSeat_404 : decode cL_isSeat 404 = .ok (.ireturn, 1) := by decide +kernel
set_option maxRecDepth 20000 in
theorem ggL_isDriven_L_does : GoodIn wsL_isDriven wsL_does := goodIn_ca (goodIn_ca (goodIn_ca (goodIn_r _ [6, 7, 8, 9, 10, 11, 5, 12, 13, 14, 15, 16, 17, 18, 19, 20, 21, 22, 23, 24, 25, 26, 27, 28, 29, 30, 31, 32, 33, 34, 35, 36, 37, 38, 39, 40, 41, 42, 43, 44, 45, 46, 47, 48, 49, 50, 51, 52, 53, 54, 55, 56, 57, 58, 59, 60, 61, 62, 63, 64, 65, 66, 67, 68, 69, 70, 71, 72, 73, 74, 75, 76, 77, 78, 79, 80, 81, 82, 83, 84, 85, 2, 86, 87, 88, 89, 90, 91, 92, 93, 94, 95, 96, 97, 98, 99, 100, 101, 102, 103, 104, 105, 106, 107, 108, 109, 110, 111, 112, 113, 114, 115, 116, 117, 118, 119, 120, 121, 122, 123, 124, 125, 126, 127, 128, 129, 130, 131, 132, 133, 134, 135, 136, 137, 138, 139, 140, 141, 142, 143, 144, 145, 146, 147, 148, 149, 150, 151, 152, 153, 154, 155, 156, 157, 158, 159, 160, 161, 162, 163, 164, 165, 166, 167, 168, 169, 170, 171, 172, 173, 174, 175, 176, 177, 178, 179, 180, 181, 182, 183, 184, 185, 186, 187, 188, 189, 190, 191, 192, 193, 194, 195, 196, 197, 198, 199, 200, 201, 202, 203, 204, 205, 206, 207, 208, 209, 210, 211, 212, 213, 214, 215, 216, 217, 218, 219, 220, 221, 222, 223, 224, 225, 226, 227, 228, 229, 230, 231, 232, 233, 234, 235, 236, 237, 238, 239, 240, 241, 242, 243, 244, 245, 246, 247, 248, 249, 250, 251, 252, 253, 254, 255, 256, 257, 258, 259, 260, 261, 262, 263, 264, 265, 266, 267, 268, 269, 270, 271, 272, 273, 274, 275, 276, 277, 278, 279, 280, 281, 282, 283, 284, 285, 286, 287, 288, 289, 290, 291, 292, 293, 294, 295, 296, 297, 298, 299, 300, 301, 302, 303, 304, 305, 306, 307, 308, 309, 310, 311, 312, 313, 314, 315, 316, 317, 318, 319, 320, 321, 322, 323, 324, 340, 341, 342, 343, 344, 345, 346, 347, 348, 349, 350, 351, 352, 353, 354, 355, 356, 357, 358] (by decide +kernel) (by decide +kernel)) (goodIn_sub (fun _ h => List.mem_cons_of_mem _ (List.mem_append_left _ (List.mem_append_left _ (List.mem_append_right _ h)))) (by decide +kernel))) (goodIn_sub (fun _ h => List.mem_cons_of_mem _ (List.mem_append_left _ (List.mem_append_right _ h))) (by decide +kernel))) (goodIn_sub (fun _ h => List.mem_cons_of_mem _ (List.mem_append_right _ h)) (by decide +kernel))
set_option maxRecDepth 20000 in
theorem gL_isDriven_L_does : GoodIn wsL_isDriven (va_wsS RL 120 yL_does wsL_does) := goodIn_app (goodIn_of _ (by decide +kernel)) ggL_isDriven_L_does
set_option maxRecDepth 20000 in
theorem ggL_isDriven_X1_aboard : GoodIn wsL_isDriven wsX1_aboard := goodIn_ca (goodIn_r _ [328, 149, 150, 151, 16, 152, 39, 40, 31, 51, 41, 42, 43, 44, 45, 46, 52, 53, 54, 55, 56, 57, 58, 59, 60, 61, 62, 63, 64, 65, 66, 67, 68, 329, 330, 331, 34, 332, 171, 340, 341, 342, 343, 344, 356, 357, 358, 345, 346, 347, 348, 349, 350, 351, 352, 353, 354, 355] (by decide +kernel) (by decide +kernel)) (goodIn_sub (fun _ h => List.mem_cons_of_mem _ (List.mem_append_right _ h)) (by decide +kernel))
set_option maxRecDepth 20000 in
theorem gL_isDriven_X1_aboard : GoodIn wsL_isDriven (wsV RL 61 RX1 yX1_aboard wsX1_aboard) := goodIn_app (goodIn_of _ (by decide +kernel)) ggL_isDriven_X1_aboard
set_option maxRecDepth 20000 in
theorem ggL_isDriven_L_bits : GoodIn wsL_isDriven wsL_bits := goodIn_r _ [335] (by decide +kernel) (by decide +kernel)
set_option maxRecDepth 20000 in
theorem gL_isDriven_L_bits : GoodIn wsL_isDriven (va_wsS RL 117 yL_bits wsL_bits) := goodIn_app (goodIn_of _ (by decide +kernel)) ggL_isDriven_L_bits
set_option maxRecDepth 20000 in
theorem ggL_isDriven_X1_charge : GoodIn wsL_isDriven wsX1_charge := goodIn_ca (goodIn_r _ [339, 149, 150, 151, 16, 152, 39, 40, 31, 51, 41, 42, 43, 44, 45, 46, 52, 53, 54, 55, 56, 57, 58, 59, 60, 61, 62, 63, 64, 65, 66, 67, 68, 153, 154, 155, 212, 213, 214, 34, 215, 86, 340, 341, 342, 343, 344, 356, 357, 358, 345, 346, 347, 348, 349, 350, 351, 352, 353, 354, 355] (by decide +kernel) (by decide +kernel)) (goodIn_sub (fun _ h => List.mem_cons_of_mem _ (List.mem_append_right _ h)) (by decide +kernel))
set_option maxRecDepth 20000 in
theorem gL_isDriven_X1_charge : GoodIn wsL_isDriven (wsV RL 64 RX1 yX1_charge wsX1_charge) := goodIn_app (goodIn_of _ (by decide +kernel)) ggL_isDriven_X1_charge
theorem dL_isDriven_0 : decode cL_isDriven 0 = .ok (.iload 4, 2) := by decide +kernel
theorem dL_isDriven_2 : decode cL_isDriven 2 = .ok (.bipush 100, 2) := by decide +kernel
theorem dL_isDriven_4 : decode cL_isDriven 4 = .ok (.if_icmp .gt 19, 3) := by decide +kernel
theorem dL_isDriven_7 : decode cL_isDriven 7 = .ok (.iload 5, 2) := by decide +kernel
theorem dL_isDriven_9 : decode cL_isDriven 9 = .ok (.ifCond .le 14, 3) := by decide +kernel
theorem dL_isDriven_12 : decode cL_isDriven 12 = .ok (.iload 5, 2) := by decide +kernel
theorem dL_isDriven_14 : decode cL_isDriven 14 = .ok (.bipush 120, 2) := by decide +kernel
theorem dL_isDriven_16 : decode cL_isDriven 16 = .ok (.if_icmp .gt 7, 3) := by decide +kernel
theorem dL_isDriven_19 : decode cL_isDriven 19 = .ok (.iconst 1, 1) := by decide +kernel
theorem dL_isDriven_20 : decode cL_isDriven 20 = .ok (.goto 4, 3) := by decide +kernel
theorem dL_isDriven_23 : decode cL_isDriven 23 = .ok (.iconst 0, 1) := by decide +kernel
theorem dL_isDriven_24 : decode cL_isDriven 24 = .ok (.istore 6, 2) := by decide +kernel
theorem dL_isDriven_26 : decode cL_isDriven 26 = .ok (.iload_n 3, 1) := by decide +kernel
theorem dL_isDriven_27 : decode cL_isDriven 27 = .ok (.aload_n 2, 1) := by decide +kernel
theorem dL_isDriven_28 : decode cL_isDriven 28 = .ok (.iconst 0, 1) := by decide +kernel
theorem dL_isDriven_29 : decode cL_isDriven 29 = .ok (.iaload, 1) := by decide +kernel
theorem dL_isDriven_30 : decode cL_isDriven 30 = .ok (.if_icmp .ge 18, 3) := by decide +kernel
theorem dL_isDriven_33 : decode cL_isDriven 33 = .ok (.iload 6, 2) := by decide +kernel
theorem dL_isDriven_35 : decode cL_isDriven 35 = .ok (.ifCond .eq 13, 3) := by decide +kernel
theorem dL_isDriven_38 : decode cL_isDriven 38 = .ok (.aload_n 1, 1) := by decide +kernel
theorem dL_isDriven_39 : decode cL_isDriven 39 = .ok (.bipush 20, 2) := by decide +kernel
theorem dL_isDriven_41 : decode cL_isDriven 41 = .ok (.iload_n 3, 1) := by decide +kernel
theorem dL_isDriven_42 : decode cL_isDriven 42 = .ok (.iadd, 1) := by decide +kernel
theorem dL_isDriven_43 : decode cL_isDriven 43 = .ok (.iaload, 1) := by decide +kernel
theorem dL_isDriven_44 : decode cL_isDriven 44 = .ok (.iconst 1, 1) := by decide +kernel
theorem dL_isDriven_45 : decode cL_isDriven 45 = .ok (.if_icmp .ne 48, 3) := by decide +kernel
theorem dL_isDriven_48 : decode cL_isDriven 48 = .ok (.aload_n 0, 1) := by decide +kernel
theorem dL_isDriven_49 : decode cL_isDriven 49 = .ok (.bipush 6, 2) := by decide +kernel
theorem dL_isDriven_51 : decode cL_isDriven 51 = .ok (.iload_n 3, 1) := by decide +kernel
theorem dL_isDriven_52 : decode cL_isDriven 52 = .ok (.iload 4, 2) := by decide +kernel
theorem dL_isDriven_54 : decode cL_isDriven 54 = .ok (.iload 5, 2) := by decide +kernel
theorem dL_isDriven_56 : decode cL_isDriven 56 = .ok (.iconst 0, 1) := by decide +kernel
theorem dL_isDriven_57 : decode cL_isDriven 57 = .ok (.invokestatic 120, 3) := by decide +kernel
theorem dL_isDriven_60 : decode cL_isDriven 60 = .ok (.iload_n 3, 1) := by decide +kernel
theorem dL_isDriven_61 : decode cL_isDriven 61 = .ok (.aload_n 2, 1) := by decide +kernel
theorem dL_isDriven_62 : decode cL_isDriven 62 = .ok (.iconst 0, 1) := by decide +kernel
theorem dL_isDriven_63 : decode cL_isDriven 63 = .ok (.iaload, 1) := by decide +kernel
theorem dL_isDriven_64 : decode cL_isDriven 64 = .ok (.if_icmp .lt 8, 3) := by decide +kernel
theorem dL_isDriven_67 : decode cL_isDriven 67 = .ok (.bipush (-30), 2) := by decide +kernel
theorem dL_isDriven_69 : decode cL_isDriven 69 = .ok (.goto 15, 3) := by decide +kernel
theorem dL_isDriven_72 : decode cL_isDriven 72 = .ok (.iload 6, 2) := by decide +kernel
theorem dL_isDriven_74 : decode cL_isDriven 74 = .ok (.ifCond .eq 8, 3) := by decide +kernel
theorem dL_isDriven_77 : decode cL_isDriven 77 = .ok (.bipush (-10), 2) := by decide +kernel
theorem dL_isDriven_79 : decode cL_isDriven 79 = .ok (.goto 5, 3) := by decide +kernel
theorem dL_isDriven_82 : decode cL_isDriven 82 = .ok (.bipush (-20), 2) := by decide +kernel
theorem dL_isDriven_84 : decode cL_isDriven 84 = .ok (.if_icmp .ne 7, 3) := by decide +kernel
theorem dL_isDriven_87 : decode cL_isDriven 87 = .ok (.iconst 1, 1) := by decide +kernel
theorem dL_isDriven_88 : decode cL_isDriven 88 = .ok (.goto 4, 3) := by decide +kernel
theorem dL_isDriven_91 : decode cL_isDriven 91 = .ok (.iconst 0, 1) := by decide +kernel
theorem dL_isDriven_92 : decode cL_isDriven 92 = .ok (.ireturn, 1) := by decide +kernel
theorem dL_isDriven_93 : decode cL_isDriven 93 = .ok (.aload_n 0, 1) := by decide +kernel
theorem dL_isDriven_94 : decode cL_isDriven 94 = .ok (.iload_n 3, 1) := by decide +kernel
theorem dL_isDriven_95 : decode cL_isDriven 95 = .ok (.invokevirtual 61, 3) := by decide +kernel
theorem dL_isDriven_98 : decode cL_isDriven 98 = .ok (.istore 7, 2) := by decide +kernel
theorem dL_isDriven_100 : decode cL_isDriven 100 = .ok (.iload 7, 2) := by decide +kernel
theorem dL_isDriven_102 : decode cL_isDriven 102 = .ok (.invokestatic 117, 3) := by decide +kernel
theorem dL_isDriven_105 : decode cL_isDriven 105 = .ok (.istore 8, 2) := by decide +kernel
theorem dL_isDriven_107 : decode cL_isDriven 107 = .ok (.iload 8, 2) := by decide +kernel
theorem dL_isDriven_109 : decode cL_isDriven 109 = .ok (.ifCond .ne 7, 3) := by decide +kernel
theorem dL_isDriven_112 : decode cL_isDriven 112 = .ok (.iconst 0, 1) := by decide +kernel
theorem dL_isDriven_113 : decode cL_isDriven 113 = .ok (.goto 16, 3) := by decide +kernel
theorem dL_isDriven_116 : decode cL_isDriven 116 = .ok (.iload 4, 2) := by decide +kernel
theorem dL_isDriven_118 : decode cL_isDriven 118 = .ok (.aload_n 2, 1) := by decide +kernel
theorem dL_isDriven_119 : decode cL_isDriven 119 = .ok (.iconst 2, 1) := by decide +kernel
theorem dL_isDriven_120 : decode cL_isDriven 120 = .ok (.iaload, 1) := by decide +kernel
theorem dL_isDriven_121 : decode cL_isDriven 121 = .ok (.imul, 1) := by decide +kernel
theorem dL_isDriven_122 : decode cL_isDriven 122 = .ok (.iload 5, 2) := by decide +kernel
theorem dL_isDriven_124 : decode cL_isDriven 124 = .ok (.aload_n 2, 1) := by decide +kernel
theorem dL_isDriven_125 : decode cL_isDriven 125 = .ok (.iconst 3, 1) := by decide +kernel
theorem dL_isDriven_126 : decode cL_isDriven 126 = .ok (.iaload, 1) := by decide +kernel
theorem dL_isDriven_127 : decode cL_isDriven 127 = .ok (.imul, 1) := by decide +kernel
theorem dL_isDriven_128 : decode cL_isDriven 128 = .ok (.iadd, 1) := by decide +kernel
theorem dL_isDriven_129 : decode cL_isDriven 129 = .ok (.istore 9, 2) := by decide +kernel
theorem dL_isDriven_131 : decode cL_isDriven 131 = .ok (.iconst 0, 1) := by decide +kernel
theorem dL_isDriven_132 : decode cL_isDriven 132 = .ok (.istore 10, 2) := by decide +kernel
theorem dL_isDriven_134 : decode cL_isDriven 134 = .ok (.ldc 124, 2) := by decide +kernel
theorem dL_isDriven_136 : decode cL_isDriven 136 = .ok (.istore 11, 2) := by decide +kernel
theorem dL_isDriven_138 : decode cL_isDriven 138 = .ok (.iconst 0, 1) := by decide +kernel
theorem dL_isDriven_139 : decode cL_isDriven 139 = .ok (.istore 12, 2) := by decide +kernel
theorem dL_isDriven_141 : decode cL_isDriven 141 = .ok (.iload 12, 2) := by decide +kernel
theorem dL_isDriven_143 : decode cL_isDriven 143 = .ok (.bipush 10, 2) := by decide +kernel
theorem dL_isDriven_145 : decode cL_isDriven 145 = .ok (.if_icmp .ge 21, 3) := by decide +kernel
theorem dL_isDriven_148 : decode cL_isDriven 148 = .ok (.iload 10, 2) := by decide +kernel
theorem dL_isDriven_150 : decode cL_isDriven 150 = .ok (.aload_n 0, 1) := by decide +kernel
theorem dL_isDriven_151 : decode cL_isDriven 151 = .ok (.iload_n 3, 1) := by decide +kernel
theorem dL_isDriven_152 : decode cL_isDriven 152 = .ok (.iload 12, 2) := by decide +kernel
theorem dL_isDriven_154 : decode cL_isDriven 154 = .ok (.invokevirtual 64, 3) := by decide +kernel
theorem dL_isDriven_157 : decode cL_isDriven 157 = .ok (.isub, 1) := by decide +kernel
theorem dL_isDriven_158 : decode cL_isDriven 158 = .ok (.istore 10, 2) := by decide +kernel
theorem dL_isDriven_160 : decode cL_isDriven 160 = .ok (.iinc 12 1, 3) := by decide +kernel
theorem dL_isDriven_163 : decode cL_isDriven 163 = .ok (.goto (-22), 3) := by decide +kernel
theorem dL_isDriven_166 : decode cL_isDriven 166 = .ok (.bipush 10, 2) := by decide +kernel
theorem dL_isDriven_168 : decode cL_isDriven 168 = .ok (.newarray .int, 2) := by decide +kernel
theorem dL_isDriven_170 : decode cL_isDriven 170 = .ok (.astore 12, 2) := by decide +kernel
theorem dL_isDriven_172 : decode cL_isDriven 172 = .ok (.iconst 0, 1) := by decide +kernel
theorem dL_isDriven_173 : decode cL_isDriven 173 = .ok (.istore 13, 2) := by decide +kernel
theorem dL_isDriven_175 : decode cL_isDriven 175 = .ok (.iload 13, 2) := by decide +kernel
theorem dL_isDriven_177 : decode cL_isDriven 177 = .ok (.bipush 10, 2) := by decide +kernel
theorem dL_isDriven_179 : decode cL_isDriven 179 = .ok (.if_icmp .ge 21, 3) := by decide +kernel
theorem dL_isDriven_182 : decode cL_isDriven 182 = .ok (.aload 12, 2) := by decide +kernel
theorem dL_isDriven_184 : decode cL_isDriven 184 = .ok (.iload 13, 2) := by decide +kernel
theorem dL_isDriven_186 : decode cL_isDriven 186 = .ok (.aload_n 0, 1) := by decide +kernel
theorem dL_isDriven_187 : decode cL_isDriven 187 = .ok (.iload_n 3, 1) := by decide +kernel
theorem dL_isDriven_188 : decode cL_isDriven 188 = .ok (.iload 13, 2) := by decide +kernel
theorem dL_isDriven_190 : decode cL_isDriven 190 = .ok (.invokevirtual 64, 3) := by decide +kernel
theorem dL_isDriven_193 : decode cL_isDriven 193 = .ok (.iastore, 1) := by decide +kernel
theorem dL_isDriven_194 : decode cL_isDriven 194 = .ok (.iinc 13 1, 3) := by decide +kernel
theorem dL_isDriven_197 : decode cL_isDriven 197 = .ok (.goto (-22), 3) := by decide +kernel
theorem dL_isDriven_200 : decode cL_isDriven 200 = .ok (.aload_n 1, 1) := by decide +kernel
theorem dL_isDriven_201 : decode cL_isDriven 201 = .ok (.bipush 40, 2) := by decide +kernel
theorem dL_isDriven_203 : decode cL_isDriven 203 = .ok (.iload_n 3, 1) := by decide +kernel
theorem dL_isDriven_204 : decode cL_isDriven 204 = .ok (.iadd, 1) := by decide +kernel
theorem dL_isDriven_205 : decode cL_isDriven 205 = .ok (.iconst 1, 1) := by decide +kernel
theorem dL_isDriven_206 : decode cL_isDriven 206 = .ok (.iastore, 1) := by decide +kernel
theorem dL_isDriven_207 : decode cL_isDriven 207 = .ok (.aload_n 0, 1) := by decide +kernel
theorem dL_isDriven_208 : decode cL_isDriven 208 = .ok (.bipush 6, 2) := by decide +kernel
theorem dL_isDriven_210 : decode cL_isDriven 210 = .ok (.iload_n 3, 1) := by decide +kernel
theorem dL_isDriven_211 : decode cL_isDriven 211 = .ok (.iload 4, 2) := by decide +kernel
theorem dL_isDriven_213 : decode cL_isDriven 213 = .ok (.iload 5, 2) := by decide +kernel
theorem dL_isDriven_215 : decode cL_isDriven 215 = .ok (.iconst 0, 1) := by decide +kernel
theorem dL_isDriven_216 : decode cL_isDriven 216 = .ok (.invokestatic 120, 3) := by decide +kernel
theorem dL_isDriven_219 : decode cL_isDriven 219 = .ok (.iload 9, 2) := by decide +kernel
theorem dL_isDriven_221 : decode cL_isDriven 221 = .ok (.if_icmp .ne 7, 3) := by decide +kernel
theorem dL_isDriven_224 : decode cL_isDriven 224 = .ok (.iconst 1, 1) := by decide +kernel
theorem dL_isDriven_225 : decode cL_isDriven 225 = .ok (.goto 4, 3) := by decide +kernel
theorem dL_isDriven_228 : decode cL_isDriven 228 = .ok (.iconst 0, 1) := by decide +kernel
theorem dL_isDriven_229 : decode cL_isDriven 229 = .ok (.istore 13, 2) := by decide +kernel
theorem dL_isDriven_231 : decode cL_isDriven 231 = .ok (.iconst 0, 1) := by decide +kernel
theorem dL_isDriven_232 : decode cL_isDriven 232 = .ok (.istore 14, 2) := by decide +kernel
theorem dL_isDriven_234 : decode cL_isDriven 234 = .ok (.iload 14, 2) := by decide +kernel
theorem dL_isDriven_236 : decode cL_isDriven 236 = .ok (.bipush 10, 2) := by decide +kernel
theorem dL_isDriven_238 : decode cL_isDriven 238 = .ok (.if_icmp .ge 127, 3) := by decide +kernel
theorem dL_isDriven_241 : decode cL_isDriven 241 = .ok (.iload 13, 2) := by decide +kernel
theorem dL_isDriven_243 : decode cL_isDriven 243 = .ok (.ifCond .eq 122, 3) := by decide +kernel
theorem dL_isDriven_246 : decode cL_isDriven 246 = .ok (.aload_n 0, 1) := by decide +kernel
theorem dL_isDriven_247 : decode cL_isDriven 247 = .ok (.iload_n 3, 1) := by decide +kernel
theorem dL_isDriven_248 : decode cL_isDriven 248 = .ok (.iload 14, 2) := by decide +kernel
theorem dL_isDriven_250 : decode cL_isDriven 250 = .ok (.invokevirtual 64, 3) := by decide +kernel
theorem dL_isDriven_253 : decode cL_isDriven 253 = .ok (.aload 12, 2) := by decide +kernel
theorem dL_isDriven_255 : decode cL_isDriven 255 = .ok (.iload 14, 2) := by decide +kernel
theorem dL_isDriven_257 : decode cL_isDriven 257 = .ok (.iaload, 1) := by decide +kernel
theorem dL_isDriven_258 : decode cL_isDriven 258 = .ok (.isub, 1) := by decide +kernel
theorem dL_isDriven_259 : decode cL_isDriven 259 = .ok (.istore 15, 2) := by decide +kernel
theorem dL_isDriven_261 : decode cL_isDriven 261 = .ok (.iload 7, 2) := by decide +kernel
theorem dL_isDriven_263 : decode cL_isDriven 263 = .ok (.iload 14, 2) := by decide +kernel
theorem dL_isDriven_265 : decode cL_isDriven 265 = .ok (.ishr, 1) := by decide +kernel
theorem dL_isDriven_266 : decode cL_isDriven 266 = .ok (.iconst 1, 1) := by decide +kernel
theorem dL_isDriven_267 : decode cL_isDriven 267 = .ok (.iand, 1) := by decide +kernel
theorem dL_isDriven_268 : decode cL_isDriven 268 = .ok (.iconst 1, 1) := by decide +kernel
theorem dL_isDriven_269 : decode cL_isDriven 269 = .ok (.if_icmp .ne 7, 3) := by decide +kernel
theorem dL_isDriven_272 : decode cL_isDriven 272 = .ok (.iconst 1, 1) := by decide +kernel
theorem dL_isDriven_273 : decode cL_isDriven 273 = .ok (.goto 4, 3) := by decide +kernel
theorem dL_isDriven_276 : decode cL_isDriven 276 = .ok (.iconst 0, 1) := by decide +kernel
theorem dL_isDriven_277 : decode cL_isDriven 277 = .ok (.istore 16, 2) := by decide +kernel
theorem dL_isDriven_279 : decode cL_isDriven 279 = .ok (.iload 16, 2) := by decide +kernel
theorem dL_isDriven_281 : decode cL_isDriven 281 = .ok (.ifCond .eq 40, 3) := by decide +kernel
