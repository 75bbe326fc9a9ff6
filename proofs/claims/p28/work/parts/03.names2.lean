theorem dX0_hasDisputed_0 : decode cX0_hasDisputed 0 = .ok (.aload_n 0, 1) := by decide +kernel
theorem dX0_hasDisputed_1 : decode cX0_hasDisputed 1 = .ok (.getfield 39, 3) := by decide +kernel
theorem dX0_hasDisputed_4 : decode cX0_hasDisputed 4 = .ok (.iload_n 1, 1) := by decide +kernel
theorem dX0_hasDisputed_5 : decode cX0_hasDisputed 5 = .ok (.invokestatic 32, 3) := by decide +kernel
theorem dX0_hasDisputed_8 : decode cX0_hasDisputed 8 = .ok (.ireturn, 1) := by decide +kernel
set_option maxRecDepth 20000 in
theorem ggX0_hasSettled_X0_holds : GoodIn wsX0_hasSettled wsX0_holds := goodIn_r _ [5] (by decide +kernel) (by decide +kernel)
set_option maxRecDepth 20000 in
theorem gX0_hasSettled_X0_holds : GoodIn wsX0_hasSettled (va_wsS RX0 32 yX0_holds wsX0_holds) := goodIn_app (goodIn_of _ (by decide +kernel)) ggX0_hasSettled_X0_holds
theorem dX0_hasSettled_0 : decode cX0_hasSettled 0 = .ok (.aload_n 0, 1) := by decide +kernel
theorem dX0_hasSettled_1 : decode cX0_hasSettled 1 = .ok (.getfield 42, 3) := by decide +kernel
theorem dX0_hasSettled_4 : decode cX0_hasSettled 4 = .ok (.iload_n 1, 1) := by decide +kernel
theorem dX0_hasSettled_5 : decode cX0_hasSettled 5 = .ok (.invokestatic 32, 3) := by decide +kernel
theorem dX0_hasSettled_8 : decode cX0_hasSettled 8 = .ok (.ireturn, 1) := by decide +kernel
set_option maxRecDepth 20000 in
theorem ggX0_freeSeats_J6_bitCount_0f7a4 : GoodIn wsX0_freeSeats wsJ6_bitCount_0f7a4 := goodIn_r _ [6, 7, 8, 9] (by decide +kernel) (by decide +kernel)
set_option maxRecDepth 20000 in
theorem gX0_freeSeats_J6_bitCount_0f7a4 : GoodIn wsX0_freeSeats (va_wsS RX0 45 yJ6_bitCount_0f7a4 wsJ6_bitCount_0f7a4) := goodIn_app (goodIn_of _ (by decide +kernel)) ggX0_freeSeats_J6_bitCount_0f7a4
theorem dX0_freeSeats_0 : decode cX0_freeSeats 0 = .ok (.iconst 4, 1) := by decide +kernel
theorem dX0_freeSeats_1 : decode cX0_freeSeats 1 = .ok (.aload_n 0, 1) := by decide +kernel
theorem dX0_freeSeats_2 : decode cX0_freeSeats 2 = .ok (.getfield 29, 3) := by decide +kernel
theorem dX0_freeSeats_5 : decode cX0_freeSeats 5 = .ok (.invokestatic 45, 3) := by decide +kernel
theorem dX0_freeSeats_8 : decode cX0_freeSeats 8 = .ok (.isub, 1) := by decide +kernel
theorem dX0_freeSeats_9 : decode cX0_freeSeats 9 = .ok (.aload_n 0, 1) := by decide +kernel
theorem dX0_freeSeats_10 : decode cX0_freeSeats 10 = .ok (.getfield 36, 3) := by decide +kernel
theorem dX0_freeSeats_13 : decode cX0_freeSeats 13 = .ok (.invokestatic 45, 3) := by decide +kernel
theorem dX0_freeSeats_16 : decode cX0_freeSeats 16 = .ok (.isub, 1) := by decide +kernel
theorem dX0_freeSeats_17 : decode cX0_freeSeats 17 = .ok (.ireturn, 1) := by decide +kernel
theorem dX0_ridersAboard_0 : decode cX0_ridersAboard 0 = .ok (.aload_n 0, 1) := by decide +kernel
theorem dX0_ridersAboard_1 : decode cX0_ridersAboard 1 = .ok (.getfield 36, 3) := by decide +kernel
theorem dX0_ridersAboard_4 : decode cX0_ridersAboard 4 = .ok (.ireturn, 1) := by decide +kernel
theorem dX0_allMinutes_0 : decode cX0_allMinutes 0 = .ok (.aload_n 0, 1) := by decide +kernel
theorem dX0_allMinutes_1 : decode cX0_allMinutes 1 = .ok (.getfield 51, 3) := by decide +kernel
theorem dX0_allMinutes_4 : decode cX0_allMinutes 4 = .ok (.ireturn, 1) := by decide +kernel
theorem dX0_chargeOf_0 : decode cX0_chargeOf 0 = .ok (.aload_n 0, 1) := by decide +kernel
theorem dX0_chargeOf_1 : decode cX0_chargeOf 1 = .ok (.getfield 18, 3) := by decide +kernel
theorem dX0_chargeOf_4 : decode cX0_chargeOf 4 = .ok (.iload_n 1, 1) := by decide +kernel
theorem dX0_chargeOf_5 : decode cX0_chargeOf 5 = .ok (.iaload, 1) := by decide +kernel
theorem dX0_chargeOf_6 : decode cX0_chargeOf 6 = .ok (.ireturn, 1) := by decide +kernel
theorem dX0_refundOf_0 : decode cX0_refundOf 0 = .ok (.aload_n 0, 1) := by decide +kernel
theorem dX0_refundOf_1 : decode cX0_refundOf 1 = .ok (.getfield 22, 3) := by decide +kernel
theorem dX0_refundOf_4 : decode cX0_refundOf 4 = .ok (.iload_n 1, 1) := by decide +kernel
theorem dX0_refundOf_5 : decode cX0_refundOf 5 = .ok (.iaload, 1) := by decide +kernel
theorem dX0_refundOf_6 : decode cX0_refundOf 6 = .ok (.ireturn, 1) := by decide +kernel
theorem dX0_addBooking_0 : decode cX0_addBooking 0 = .ok (.aload_n 0, 1) := by decide +kernel
theorem dX0_addBooking_1 : decode cX0_addBooking 1 = .ok (.dup, 1) := by decide +kernel
theorem dX0_addBooking_2 : decode cX0_addBooking 2 = .ok (.getfield 29, 3) := by decide +kernel
theorem dX0_addBooking_5 : decode cX0_addBooking 5 = .ok (.iconst 1, 1) := by decide +kernel
theorem dX0_addBooking_6 : decode cX0_addBooking 6 = .ok (.iload_n 1, 1) := by decide +kernel
theorem dX0_addBooking_7 : decode cX0_addBooking 7 = .ok (.ishl, 1) := by decide +kernel
theorem dX0_addBooking_8 : decode cX0_addBooking 8 = .ok (.ior, 1) := by decide +kernel
theorem dX0_addBooking_9 : decode cX0_addBooking 9 = .ok (.putfield 29, 3) := by decide +kernel
theorem dX0_addBooking_12 : decode cX0_addBooking 12 = .ok (.return_, 1) := by decide +kernel
theorem dX0_dropBooking_0 : decode cX0_dropBooking 0 = .ok (.aload_n 0, 1) := by decide +kernel
theorem dX0_dropBooking_1 : decode cX0_dropBooking 1 = .ok (.dup, 1) := by decide +kernel
theorem dX0_dropBooking_2 : decode cX0_dropBooking 2 = .ok (.getfield 29, 3) := by decide +kernel
theorem dX0_dropBooking_5 : decode cX0_dropBooking 5 = .ok (.iconst 1, 1) := by decide +kernel
theorem dX0_dropBooking_6 : decode cX0_dropBooking 6 = .ok (.iload_n 1, 1) := by decide +kernel
theorem dX0_dropBooking_7 : decode cX0_dropBooking 7 = .ok (.ishl, 1) := by decide +kernel
theorem dX0_dropBooking_8 : decode cX0_dropBooking 8 = .ok (.iconst (-1), 1) := by decide +kernel
theorem dX0_dropBooking_9 : decode cX0_dropBooking 9 = .ok (.ixor, 1) := by decide +kernel
theorem dX0_dropBooking_10 : decode cX0_dropBooking 10 = .ok (.iand, 1) := by decide +kernel
theorem dX0_dropBooking_11 : decode cX0_dropBooking 11 = .ok (.putfield 29, 3) := by decide +kernel
theorem dX0_dropBooking_14 : decode cX0_dropBooking 14 = .ok (.aload_n 0, 1) := by decide +kernel
theorem dX0_dropBooking_15 : decode cX0_dropBooking 15 = .ok (.getfield 51, 3) := by decide +kernel
theorem dX0_dropBooking_18 : decode cX0_dropBooking 18 = .ok (.ifCond .ne 7, 3) := by decide +kernel
theorem dX0_dropBooking_21 : decode cX0_dropBooking 21 = .ok (.iconst 0, 1) := by decide +kernel
theorem dX0_dropBooking_22 : decode cX0_dropBooking 22 = .ok (.goto 6, 3) := by decide +kernel
theorem dX0_dropBooking_25 : decode cX0_dropBooking 25 = .ok (.sipush 250, 3) := by decide +kernel
theorem dX0_dropBooking_28 : decode cX0_dropBooking 28 = .ok (.istore_n 2, 1) := by decide +kernel
theorem dX0_dropBooking_29 : decode cX0_dropBooking 29 = .ok (.aload_n 0, 1) := by decide +kernel
theorem dX0_dropBooking_30 : decode cX0_dropBooking 30 = .ok (.getfield 18, 3) := by decide +kernel
theorem dX0_dropBooking_33 : decode cX0_dropBooking 33 = .ok (.iload_n 1, 1) := by decide +kernel
theorem dX0_dropBooking_34 : decode cX0_dropBooking 34 = .ok (.dup2, 1) := by decide +kernel
theorem dX0_dropBooking_35 : decode cX0_dropBooking 35 = .ok (.iaload, 1) := by decide +kernel
theorem dX0_dropBooking_36 : decode cX0_dropBooking 36 = .ok (.iload_n 2, 1) := by decide +kernel
theorem dX0_dropBooking_37 : decode cX0_dropBooking 37 = .ok (.iadd, 1) := by decide +kernel
theorem dX0_dropBooking_38 : decode cX0_dropBooking 38 = .ok (.iastore, 1) := by decide +kernel
theorem dX0_dropBooking_39 : decode cX0_dropBooking 39 = .ok (.iload_n 2, 1) := by decide +kernel
theorem dX0_dropBooking_40 : decode cX0_dropBooking 40 = .ok (.ireturn, 1) := by decide +kernel
set_option maxRecDepth 20000 in
theorem ggX0_takeAboard_J6_bitCount_0f7a4 : GoodIn wsX0_takeAboard wsJ6_bitCount_0f7a4 := goodIn_r _ [6, 7, 8, 9] (by decide +kernel) (by decide +kernel)
set_option maxRecDepth 20000 in
theorem gX0_takeAboard_J6_bitCount_0f7a4 : GoodIn wsX0_takeAboard (va_wsS RX0 45 yJ6_bitCount_0f7a4 wsJ6_bitCount_0f7a4) := goodIn_app (goodIn_of _ (by decide +kernel)) ggX0_takeAboard_J6_bitCount_0f7a4
theorem dX0_takeAboard_0 : decode cX0_takeAboard 0 = .ok (.aload_n 0, 1) := by decide +kernel
theorem dX0_takeAboard_1 : decode cX0_takeAboard 1 = .ok (.dup, 1) := by decide +kernel
theorem dX0_takeAboard_2 : decode cX0_takeAboard 2 = .ok (.getfield 29, 3) := by decide +kernel
theorem dX0_takeAboard_5 : decode cX0_takeAboard 5 = .ok (.iconst 1, 1) := by decide +kernel
theorem dX0_takeAboard_6 : decode cX0_takeAboard 6 = .ok (.iload_n 1, 1) := by decide +kernel
theorem dX0_takeAboard_7 : decode cX0_takeAboard 7 = .ok (.ishl, 1) := by decide +kernel
theorem dX0_takeAboard_8 : decode cX0_takeAboard 8 = .ok (.iconst (-1), 1) := by decide +kernel
theorem dX0_takeAboard_9 : decode cX0_takeAboard 9 = .ok (.ixor, 1) := by decide +kernel
theorem dX0_takeAboard_10 : decode cX0_takeAboard 10 = .ok (.iand, 1) := by decide +kernel
theorem dX0_takeAboard_11 : decode cX0_takeAboard 11 = .ok (.putfield 29, 3) := by decide +kernel
theorem dX0_takeAboard_14 : decode cX0_takeAboard 14 = .ok (.aload_n 0, 1) := by decide +kernel
theorem dX0_takeAboard_15 : decode cX0_takeAboard 15 = .ok (.dup, 1) := by decide +kernel
theorem dX0_takeAboard_16 : decode cX0_takeAboard 16 = .ok (.getfield 36, 3) := by decide +kernel
theorem dX0_takeAboard_19 : decode cX0_takeAboard 19 = .ok (.iconst 1, 1) := by decide +kernel
theorem dX0_takeAboard_20 : decode cX0_takeAboard 20 = .ok (.iload_n 1, 1) := by decide +kernel
theorem dX0_takeAboard_21 : decode cX0_takeAboard 21 = .ok (.ishl, 1) := by decide +kernel
theorem dX0_takeAboard_22 : decode cX0_takeAboard 22 = .ok (.ior, 1) := by decide +kernel
theorem dX0_takeAboard_23 : decode cX0_takeAboard 23 = .ok (.putfield 36, 3) := by decide +kernel
theorem dX0_takeAboard_26 : decode cX0_takeAboard 26 = .ok (.aload_n 0, 1) := by decide +kernel
theorem dX0_takeAboard_27 : decode cX0_takeAboard 27 = .ok (.getfield 36, 3) := by decide +kernel
theorem dX0_takeAboard_30 : decode cX0_takeAboard 30 = .ok (.invokestatic 45, 3) := by decide +kernel
theorem dX0_takeAboard_33 : decode cX0_takeAboard 33 = .ok (.ireturn, 1) := by decide +kernel
theorem dX0_letOut_0 : decode cX0_letOut 0 = .ok (.aload_n 0, 1) := by decide +kernel
theorem dX0_letOut_1 : decode cX0_letOut 1 = .ok (.dup, 1) := by decide +kernel
theorem dX0_letOut_2 : decode cX0_letOut 2 = .ok (.getfield 36, 3) := by decide +kernel
theorem dX0_letOut_5 : decode cX0_letOut 5 = .ok (.iconst 1, 1) := by decide +kernel
theorem dX0_letOut_6 : decode cX0_letOut 6 = .ok (.iload_n 1, 1) := by decide +kernel
theorem dX0_letOut_7 : decode cX0_letOut 7 = .ok (.ishl, 1) := by decide +kernel
theorem dX0_letOut_8 : decode cX0_letOut 8 = .ok (.iconst (-1), 1) := by decide +kernel
theorem dX0_letOut_9 : decode cX0_letOut 9 = .ok (.ixor, 1) := by decide +kernel
theorem dX0_letOut_10 : decode cX0_letOut 10 = .ok (.iand, 1) := by decide +kernel
theorem dX0_letOut_11 : decode cX0_letOut 11 = .ok (.putfield 36, 3) := by decide +kernel
theorem dX0_letOut_14 : decode cX0_letOut 14 = .ok (.return_, 1) := by decide +kernel
set_option maxRecDepth 20000 in
theorem ggX0_addStretch_J6_bitCount_0f7a4 : GoodIn wsX0_addStretch wsJ6_bitCount_0f7a4 := goodIn_r _ [7, 8, 9, 10] (by decide +kernel) (by decide +kernel)
set_option maxRecDepth 20000 in
theorem gX0_addStretch_J6_bitCount_0f7a4 : GoodIn wsX0_addStretch (va_wsS RX0 45 yJ6_bitCount_0f7a4 wsJ6_bitCount_0f7a4) := goodIn_app (goodIn_of _ (by decide +kernel)) ggX0_addStretch_J6_bitCount_0f7a4
set_option maxRecDepth 20000 in
theorem ggX0_addStretch_X0_holds : GoodIn wsX0_addStretch wsX0_holds := goodIn_r _ [14] (by decide +kernel) (by decide +kernel)
set_option maxRecDepth 20000 in
theorem gX0_addStretch_X0_holds : GoodIn wsX0_addStretch (va_wsS RX0 32 yX0_holds wsX0_holds) := goodIn_app (goodIn_of _ (by decide +kernel)) ggX0_addStretch_X0_holds
theorem dX0_addStretch_0 : decode cX0_addStretch 0 = .ok (.aload_n 0, 1) := by decide +kernel
theorem dX0_addStretch_1 : decode cX0_addStretch 1 = .ok (.dup, 1) := by decide +kernel
theorem dX0_addStretch_2 : decode cX0_addStretch 2 = .ok (.getfield 51, 3) := by decide +kernel
theorem dX0_addStretch_5 : decode cX0_addStretch 5 = .ok (.iload_n 2, 1) := by decide +kernel
theorem dX0_addStretch_6 : decode cX0_addStretch 6 = .ok (.iadd, 1) := by decide +kernel
theorem dX0_addStretch_7 : decode cX0_addStretch 7 = .ok (.putfield 51, 3) := by decide +kernel
theorem dX0_addStretch_10 : decode cX0_addStretch 10 = .ok (.aload_n 0, 1) := by decide +kernel
theorem dX0_addStretch_11 : decode cX0_addStretch 11 = .ok (.getfield 36, 3) := by decide +kernel
theorem dX0_addStretch_14 : decode cX0_addStretch 14 = .ok (.invokestatic 45, 3) := by decide +kernel
theorem dX0_addStretch_17 : decode cX0_addStretch 17 = .ok (.istore_n 3, 1) := by decide +kernel
theorem dX0_addStretch_18 : decode cX0_addStretch 18 = .ok (.iload_n 3, 1) := by decide +kernel
theorem dX0_addStretch_19 : decode cX0_addStretch 19 = .ok (.ifCond .ne 5, 3) := by decide +kernel
theorem dX0_addStretch_22 : decode cX0_addStretch 22 = .ok (.iconst 0, 1) := by decide +kernel
theorem dX0_addStretch_23 : decode cX0_addStretch 23 = .ok (.ireturn, 1) := by decide +kernel
theorem dX0_addStretch_24 : decode cX0_addStretch 24 = .ok (.iload_n 1, 1) := by decide +kernel
theorem dX0_addStretch_25 : decode cX0_addStretch 25 = .ok (.iload_n 3, 1) := by decide +kernel
theorem dX0_addStretch_26 : decode cX0_addStretch 26 = .ok (.idiv, 1) := by decide +kernel
theorem dX0_addStretch_27 : decode cX0_addStretch 27 = .ok (.istore 4, 2) := by decide +kernel
theorem dX0_addStretch_29 : decode cX0_addStretch 29 = .ok (.iload_n 1, 1) := by decide +kernel
theorem dX0_addStretch_30 : decode cX0_addStretch 30 = .ok (.iload_n 3, 1) := by decide +kernel
theorem dX0_addStretch_31 : decode cX0_addStretch 31 = .ok (.irem, 1) := by decide +kernel
theorem dX0_addStretch_32 : decode cX0_addStretch 32 = .ok (.istore 5, 2) := by decide +kernel
theorem dX0_addStretch_34 : decode cX0_addStretch 34 = .ok (.iconst 0, 1) := by decide +kernel
theorem dX0_addStretch_35 : decode cX0_addStretch 35 = .ok (.istore 6, 2) := by decide +kernel
theorem dX0_addStretch_37 : decode cX0_addStretch 37 = .ok (.iload 6, 2) := by decide +kernel
theorem dX0_addStretch_39 : decode cX0_addStretch 39 = .ok (.bipush 10, 2) := by decide +kernel
theorem dX0_addStretch_41 : decode cX0_addStretch 41 = .ok (.if_icmp .ge 48, 3) := by decide +kernel
theorem dX0_addStretch_44 : decode cX0_addStretch 44 = .ok (.aload_n 0, 1) := by decide +kernel
theorem dX0_addStretch_45 : decode cX0_addStretch 45 = .ok (.getfield 36, 3) := by decide +kernel
theorem dX0_addStretch_48 : decode cX0_addStretch 48 = .ok (.iload 6, 2) := by decide +kernel
theorem dX0_addStretch_50 : decode cX0_addStretch 50 = .ok (.invokestatic 32, 3) := by decide +kernel
theorem dX0_addStretch_53 : decode cX0_addStretch 53 = .ok (.ifCond .eq 30, 3) := by decide +kernel
theorem dX0_addStretch_56 : decode cX0_addStretch 56 = .ok (.aload_n 0, 1) := by decide +kernel
theorem dX0_addStretch_57 : decode cX0_addStretch 57 = .ok (.getfield 18, 3) := by decide +kernel
theorem dX0_addStretch_60 : decode cX0_addStretch 60 = .ok (.iload 6, 2) := by decide +kernel
theorem dX0_addStretch_62 : decode cX0_addStretch 62 = .ok (.dup2, 1) := by decide +kernel
theorem dX0_addStretch_63 : decode cX0_addStretch 63 = .ok (.iaload, 1) := by decide +kernel
theorem dX0_addStretch_64 : decode cX0_addStretch 64 = .ok (.iload 5, 2) := by decide +kernel
theorem dX0_addStretch_66 : decode cX0_addStretch 66 = .ok (.ifCond .le 10, 3) := by decide +kernel
theorem dX0_addStretch_69 : decode cX0_addStretch 69 = .ok (.iload 4, 2) := by decide +kernel
theorem dX0_addStretch_71 : decode cX0_addStretch 71 = .ok (.iconst 1, 1) := by decide +kernel
theorem dX0_addStretch_72 : decode cX0_addStretch 72 = .ok (.iadd, 1) := by decide +kernel
theorem dX0_addStretch_73 : decode cX0_addStretch 73 = .ok (.goto 5, 3) := by decide +kernel
theorem dX0_addStretch_76 : decode cX0_addStretch 76 = .ok (.iload 4, 2) := by decide +kernel
theorem dX0_addStretch_78 : decode cX0_addStretch 78 = .ok (.iadd, 1) := by decide +kernel
theorem dX0_addStretch_79 : decode cX0_addStretch 79 = .ok (.iastore, 1) := by decide +kernel
theorem dX0_addStretch_80 : decode cX0_addStretch 80 = .ok (.iinc 5 (-1), 3) := by decide +kernel
theorem dX0_addStretch_83 : decode cX0_addStretch 83 = .ok (.iinc 6 1, 3) := by decide +kernel
theorem dX0_addStretch_86 : decode cX0_addStretch 86 = .ok (.goto (-49), 3) := by decide +kernel
theorem dX0_addStretch_89 : decode cX0_addStretch 89 = .ok (.iload_n 1, 1) := by decide +kernel
theorem dX0_addStretch_90 : decode cX0_addStretch 90 = .ok (.ireturn, 1) := by decide +kernel
set_option maxRecDepth 20000 in
theorem ggX0_end_X0_holds : GoodIn wsX0_end wsX0_holds := goodIn_r _ [8] (by decide +kernel) (by decide +kernel)
set_option maxRecDepth 20000 in
theorem gX0_end_X0_holds : GoodIn wsX0_end (va_wsS RX0 32 yX0_holds wsX0_holds) := goodIn_app (goodIn_of _ (by decide +kernel)) ggX0_end_X0_holds
theorem dX0_end_0 : decode cX0_end 0 = .ok (.iconst 0, 1) := by decide +kernel
theorem dX0_end_1 : decode cX0_end 1 = .ok (.istore_n 1, 1) := by decide +kernel
theorem dX0_end_2 : decode cX0_end 2 = .ok (.iload_n 1, 1) := by decide +kernel
theorem dX0_end_3 : decode cX0_end 3 = .ok (.bipush 10, 2) := by decide +kernel
theorem dX0_end_5 : decode cX0_end 5 = .ok (.if_icmp .ge 32, 3) := by decide +kernel
theorem dX0_end_8 : decode cX0_end 8 = .ok (.aload_n 0, 1) := by decide +kernel
theorem dX0_end_9 : decode cX0_end 9 = .ok (.getfield 29, 3) := by decide +kernel
theorem dX0_end_12 : decode cX0_end 12 = .ok (.iload_n 1, 1) := by decide +kernel
theorem dX0_end_13 : decode cX0_end 13 = .ok (.invokestatic 32, 3) := by decide +kernel
theorem dX0_end_16 : decode cX0_end 16 = .ok (.ifCond .eq 15, 3) := by decide +kernel
theorem dX0_end_19 : decode cX0_end 19 = .ok (.aload_n 0, 1) := by decide +kernel
theorem dX0_end_20 : decode cX0_end 20 = .ok (.getfield 18, 3) := by decide +kernel
theorem dX0_end_23 : decode cX0_end 23 = .ok (.iload_n 1, 1) := by decide +kernel
theorem dX0_end_24 : decode cX0_end 24 = .ok (.dup2, 1) := by decide +kernel
theorem dX0_end_25 : decode cX0_end 25 = .ok (.iaload, 1) := by decide +kernel
theorem dX0_end_26 : decode cX0_end 26 = .ok (.sipush 400, 3) := by decide +kernel
theorem dX0_end_29 : decode cX0_end 29 = .ok (.iadd, 1) := by decide +kernel
theorem dX0_end_30 : decode cX0_end 30 = .ok (.iastore, 1) := by decide +kernel
theorem dX0_end_31 : decode cX0_end 31 = .ok (.iinc 1 1, 3) := by decide +kernel
theorem dX0_end_34 : decode cX0_end 34 = .ok (.goto (-32), 3) := by decide +kernel
theorem dX0_end_37 : decode cX0_end 37 = .ok (.aload_n 0, 1) := by decide +kernel
theorem dX0_end_38 : decode cX0_end 38 = .ok (.iconst 0, 1) := by decide +kernel
theorem dX0_end_39 : decode cX0_end 39 = .ok (.putfield 36, 3) := by decide +kernel
theorem dX0_end_42 : decode cX0_end 42 = .ok (.aload_n 0, 1) := by decide +kernel
theorem dX0_end_43 : decode cX0_end 43 = .ok (.iconst 1, 1) := by decide +kernel
theorem dX0_end_44 : decode cX0_end 44 = .ok (.putfield 25, 3) := by decide +kernel
theorem dX0_end_47 : decode cX0_end 47 = .ok (.return_, 1) := by decide +kernel
theorem dX0_allCharges_0 : decode cX0_allCharges 0 = .ok (.iconst 0, 1) := by decide +kernel
theorem dX0_allCharges_1 : decode cX0_allCharges 1 = .ok (.istore_n 1, 1) := by decide +kernel
theorem dX0_allCharges_2 : decode cX0_allCharges 2 = .ok (.iconst 0, 1) := by decide +kernel
theorem dX0_allCharges_3 : decode cX0_allCharges 3 = .ok (.istore_n 2, 1) := by decide +kernel
theorem dX0_allCharges_4 : decode cX0_allCharges 4 = .ok (.iload_n 2, 1) := by decide +kernel
theorem dX0_allCharges_5 : decode cX0_allCharges 5 = .ok (.bipush 10, 2) := by decide +kernel
theorem dX0_allCharges_7 : decode cX0_allCharges 7 = .ok (.if_icmp .ge 18, 3) := by decide +kernel
theorem dX0_allCharges_10 : decode cX0_allCharges 10 = .ok (.iload_n 1, 1) := by decide +kernel
theorem dX0_allCharges_11 : decode cX0_allCharges 11 = .ok (.aload_n 0, 1) := by decide +kernel
theorem dX0_allCharges_12 : decode cX0_allCharges 12 = .ok (.getfield 18, 3) := by decide +kernel
theorem dX0_allCharges_15 : decode cX0_allCharges 15 = .ok (.iload_n 2, 1) := by decide +kernel
theorem dX0_allCharges_16 : decode cX0_allCharges 16 = .ok (.iaload, 1) := by decide +kernel
theorem dX0_allCharges_17 : decode cX0_allCharges 17 = .ok (.iadd, 1) := by decide +kernel
theorem dX0_allCharges_18 : decode cX0_allCharges 18 = .ok (.istore_n 1, 1) := by decide +kernel
theorem dX0_allCharges_19 : decode cX0_allCharges 19 = .ok (.iinc 2 1, 3) := by decide +kernel
theorem dX0_allCharges_22 : decode cX0_allCharges 22 = .ok (.goto (-18), 3) := by decide +kernel
theorem dX0_allCharges_25 : decode cX0_allCharges 25 = .ok (.iload_n 1, 1) := by decide +kernel
theorem dX0_allCharges_26 : decode cX0_allCharges 26 = .ok (.ireturn, 1) := by decide +kernel
theorem dX0_allRefunds_0 : decode cX0_allRefunds 0 = .ok (.iconst 0, 1) := by decide +kernel
theorem dX0_allRefunds_1 : decode cX0_allRefunds 1 = .ok (.istore_n 1, 1) := by decide +kernel
theorem dX0_allRefunds_2 : decode cX0_allRefunds 2 = .ok (.iconst 0, 1) := by decide +kernel
theorem dX0_allRefunds_3 : decode cX0_allRefunds 3 = .ok (.istore_n 2, 1) := by decide +kernel
theorem dX0_allRefunds_4 : decode cX0_allRefunds 4 = .ok (.iload_n 2, 1) := by decide +kernel
theorem dX0_allRefunds_5 : decode cX0_allRefunds 5 = .ok (.bipush 10, 2) := by decide +kernel
theorem dX0_allRefunds_7 : decode cX0_allRefunds 7 = .ok (.if_icmp .ge 18, 3) := by decide +kernel
theorem dX0_allRefunds_10 : decode cX0_allRefunds 10 = .ok (.iload_n 1, 1) := by decide +kernel
theorem dX0_allRefunds_11 : decode cX0_allRefunds 11 = .ok (.aload_n 0, 1) := by decide +kernel
theorem dX0_allRefunds_12 : decode cX0_allRefunds 12 = .ok (.getfield 22, 3) := by decide +kernel
theorem dX0_allRefunds_15 : decode cX0_allRefunds 15 = .ok (.iload_n 2, 1) := by decide +kernel
theorem dX0_allRefunds_16 : decode cX0_allRefunds 16 = .ok (.iaload, 1) := by decide +kernel
theorem dX0_allRefunds_17 : decode cX0_allRefunds 17 = .ok (.iadd, 1) := by decide +kernel
theorem dX0_allRefunds_18 : decode cX0_allRefunds 18 = .ok (.istore_n 1, 1) := by decide +kernel
theorem dX0_allRefunds_19 : decode cX0_allRefunds 19 = .ok (.iinc 2 1, 3) := by decide +kernel
theorem dX0_allRefunds_22 : decode cX0_allRefunds 22 = .ok (.goto (-18), 3) := by decide +kernel
theorem dX0_allRefunds_25 : decode cX0_allRefunds 25 = .ok (.iload_n 1, 1) := by decide +kernel
theorem dX0_allRefunds_26 : decode cX0_allRefunds 26 = .ok (.ireturn, 1) := by decide +kernel
theorem dX0_addDispute_0 : decode cX0_addDispute 0 = .ok (.aload_n 0, 1) := by decide +kernel
theorem dX0_addDispute_1 : decode cX0_addDispute 1 = .ok (.dup, 1) := by decide +kernel
theorem dX0_addDispute_2 : decode cX0_addDispute 2 = .ok (.getfield 39, 3) := by decide +kernel
theorem dX0_addDispute_5 : decode cX0_addDispute 5 = .ok (.iconst 1, 1) := by decide +kernel
theorem dX0_addDispute_6 : decode cX0_addDispute 6 = .ok (.iload_n 1, 1) := by decide +kernel
theorem dX0_addDispute_7 : decode cX0_addDispute 7 = .ok (.ishl, 1) := by decide +kernel
theorem dX0_addDispute_8 : decode cX0_addDispute 8 = .ok (.ior, 1) := by decide +kernel
theorem dX0_addDispute_9 : decode cX0_addDispute 9 = .ok (.putfield 39, 3) := by decide +kernel
theorem dX0_addDispute_12 : decode cX0_addDispute 12 = .ok (.return_, 1) := by decide +kernel
theorem dX0_refund_0 : decode cX0_refund 0 = .ok (.aload_n 0, 1) := by decide +kernel
theorem dX0_refund_1 : decode cX0_refund 1 = .ok (.dup, 1) := by decide +kernel
theorem dX0_refund_2 : decode cX0_refund 2 = .ok (.getfield 42, 3) := by decide +kernel
theorem dX0_refund_5 : decode cX0_refund 5 = .ok (.iconst 1, 1) := by decide +kernel
theorem dX0_refund_6 : decode cX0_refund 6 = .ok (.iload_n 1, 1) := by decide +kernel
theorem dX0_refund_7 : decode cX0_refund 7 = .ok (.ishl, 1) := by decide +kernel
theorem dX0_refund_8 : decode cX0_refund 8 = .ok (.ior, 1) := by decide +kernel
theorem dX0_refund_9 : decode cX0_refund 9 = .ok (.putfield 42, 3) := by decide +kernel
theorem dX0_refund_12 : decode cX0_refund 12 = .ok (.iload_n 3, 1) := by decide +kernel
theorem dX0_refund_13 : decode cX0_refund 13 = .ok (.ifCond .eq 15, 3) := by decide +kernel
theorem dX0_refund_16 : decode cX0_refund 16 = .ok (.aload_n 0, 1) := by decide +kernel
theorem dX0_refund_17 : decode cX0_refund 17 = .ok (.dup, 1) := by decide +kernel
theorem dX0_refund_18 : decode cX0_refund 18 = .ok (.getfield 54, 3) := by decide +kernel
theorem dX0_refund_21 : decode cX0_refund 21 = .ok (.iconst 1, 1) := by decide +kernel
theorem dX0_refund_22 : decode cX0_refund 22 = .ok (.iload_n 1, 1) := by decide +kernel
theorem dX0_refund_23 : decode cX0_refund 23 = .ok (.ishl, 1) := by decide +kernel
theorem dX0_refund_24 : decode cX0_refund 24 = .ok (.ior, 1) := by decide +kernel
theorem dX0_refund_25 : decode cX0_refund 25 = .ok (.putfield 54, 3) := by decide +kernel
theorem dX0_refund_28 : decode cX0_refund 28 = .ok (.aload_n 0, 1) := by decide +kernel
theorem dX0_refund_29 : decode cX0_refund 29 = .ok (.getfield 22, 3) := by decide +kernel
theorem dX0_refund_32 : decode cX0_refund 32 = .ok (.iload_n 1, 1) := by decide +kernel
theorem dX0_refund_33 : decode cX0_refund 33 = .ok (.aload_n 0, 1) := by decide +kernel
theorem dX0_refund_34 : decode cX0_refund 34 = .ok (.getfield 18, 3) := by decide +kernel
theorem dX0_refund_37 : decode cX0_refund 37 = .ok (.iload_n 1, 1) := by decide +kernel
theorem dX0_refund_38 : decode cX0_refund 38 = .ok (.iaload, 1) := by decide +kernel
theorem dX0_refund_39 : decode cX0_refund 39 = .ok (.i2l, 1) := by decide +kernel
theorem dX0_refund_40 : decode cX0_refund 40 = .ok (.iload_n 2, 1) := by decide +kernel
theorem dX0_refund_41 : decode cX0_refund 41 = .ok (.i2l, 1) := by decide +kernel
theorem dX0_refund_42 : decode cX0_refund 42 = .ok (.lmul, 1) := by decide +kernel
theorem dX0_refund_43 : decode cX0_refund 43 = .ok (.ldc2_w 57, 3) := by decide +kernel
theorem dX0_refund_46 : decode cX0_refund 46 = .ok (.ldiv, 1) := by decide +kernel
theorem dX0_refund_47 : decode cX0_refund 47 = .ok (.l2i, 1) := by decide +kernel
theorem dX0_refund_48 : decode cX0_refund 48 = .ok (.iastore, 1) := by decide +kernel
theorem dX0_refund_49 : decode cX0_refund 49 = .ok (.aload_n 0, 1) := by decide +kernel
theorem dX0_refund_50 : decode cX0_refund 50 = .ok (.getfield 22, 3) := by decide +kernel
theorem dX0_refund_53 : decode cX0_refund 53 = .ok (.iload_n 1, 1) := by decide +kernel
theorem dX0_refund_54 : decode cX0_refund 54 = .ok (.iaload, 1) := by decide +kernel
theorem dX0_refund_55 : decode cX0_refund 55 = .ok (.ireturn, 1) := by decide +kernel
set_option maxRecDepth 20000 in
theorem ggX0_unsettledDisputes_J6_bitCount_0f7a4 : GoodIn wsX0_unsettledDisputes wsJ6_bitCount_0f7a4 := goodIn_r _ [6, 7, 8, 9] (by decide +kernel) (by decide +kernel)
set_option maxRecDepth 20000 in
theorem gX0_unsettledDisputes_J6_bitCount_0f7a4 : GoodIn wsX0_unsettledDisputes (va_wsS RX0 45 yJ6_bitCount_0f7a4 wsJ6_bitCount_0f7a4) := goodIn_app (goodIn_of _ (by decide +kernel)) ggX0_unsettledDisputes_J6_bitCount_0f7a4
theorem dX0_unsettledDisputes_0 : decode cX0_unsettledDisputes 0 = .ok (.aload_n 0, 1) := by decide +kernel
theorem dX0_unsettledDisputes_1 : decode cX0_unsettledDisputes 1 = .ok (.getfield 39, 3) := by decide +kernel
theorem dX0_unsettledDisputes_4 : decode cX0_unsettledDisputes 4 = .ok (.aload_n 0, 1) := by decide +kernel
theorem dX0_unsettledDisputes_5 : decode cX0_unsettledDisputes 5 = .ok (.getfield 42, 3) := by decide +kernel
theorem dX0_unsettledDisputes_8 : decode cX0_unsettledDisputes 8 = .ok (.iconst (-1), 1) := by decide +kernel
theorem dX0_unsettledDisputes_9 : decode cX0_unsettledDisputes 9 = .ok (.ixor, 1) := by decide +kernel
theorem dX0_unsettledDisputes_10 : decode cX0_unsettledDisputes 10 = .ok (.iand, 1) := by decide +kernel
theorem dX0_unsettledDisputes_11 : decode cX0_unsettledDisputes 11 = .ok (.invokestatic 45, 3) := by decide +kernel
theorem dX0_unsettledDisputes_14 : decode cX0_unsettledDisputes 14 = .ok (.ireturn, 1) := by decide +kernel
set_option maxRecDepth 20000 in
theorem ggX0_allForDriver_X0_forDriver : GoodIn wsX0_allForDriver wsX0_forDriver := goodIn_r _ [5, 6, 7, 8, 9, 10, 4, 11, 12, 13, 14, 15, 16, 17, 18, 19, 20, 21, 22] (by decide +kernel) (by decide +kernel)
set_option maxRecDepth 20000 in
theorem gX0_allForDriver_X0_forDriver : GoodIn wsX0_allForDriver (wsV RX0 59 RX0 yX0_forDriver wsX0_forDriver) := goodIn_app (goodIn_of _ (by decide +kernel)) ggX0_allForDriver_X0_forDriver
theorem dX0_allForDriver_0 : decode cX0_allForDriver 0 = .ok (.iconst 0, 1) := by decide +kernel
theorem dX0_allForDriver_1 : decode cX0_allForDriver 1 = .ok (.istore_n 1, 1) := by decide +kernel
theorem dX0_allForDriver_2 : decode cX0_allForDriver 2 = .ok (.iconst 0, 1) := by decide +kernel
theorem dX0_allForDriver_3 : decode cX0_allForDriver 3 = .ok (.istore_n 2, 1) := by decide +kernel
theorem dX0_allForDriver_4 : decode cX0_allForDriver 4 = .ok (.iload_n 2, 1) := by decide +kernel
theorem dX0_allForDriver_5 : decode cX0_allForDriver 5 = .ok (.bipush 10, 2) := by decide +kernel
theorem dX0_allForDriver_7 : decode cX0_allForDriver 7 = .ok (.if_icmp .ge 17, 3) := by decide +kernel
theorem dX0_allForDriver_10 : decode cX0_allForDriver 10 = .ok (.iload_n 1, 1) := by decide +kernel
theorem dX0_allForDriver_11 : decode cX0_allForDriver 11 = .ok (.aload_n 0, 1) := by decide +kernel
theorem dX0_allForDriver_12 : decode cX0_allForDriver 12 = .ok (.iload_n 2, 1) := by decide +kernel
theorem dX0_allForDriver_13 : decode cX0_allForDriver 13 = .ok (.invokevirtual 59, 3) := by decide +kernel
theorem dX0_allForDriver_16 : decode cX0_allForDriver 16 = .ok (.iadd, 1) := by decide +kernel
theorem dX0_allForDriver_17 : decode cX0_allForDriver 17 = .ok (.istore_n 1, 1) := by decide +kernel
theorem dX0_allForDriver_18 : decode cX0_allForDriver 18 = .ok (.iinc 2 1, 3) := by decide +kernel
theorem dX0_allForDriver_21 : decode cX0_allForDriver 21 = .ok (.goto (-17), 3) := by decide +kernel
theorem dX0_allForDriver_24 : decode cX0_allForDriver 24 = .ok (.iload_n 1, 1) := by decide +kernel
theorem dX0_allForDriver_25 : decode cX0_allForDriver 25 = .ok (.ireturn, 1) := by decide +kernel
set_option maxRecDepth 20000 in
theorem ggX0_forDriver_X0_holds : GoodIn wsX0_forDriver wsX0_holds := goodIn_r _ [7] (by decide +kernel) (by decide +kernel)
set_option maxRecDepth 20000 in
theorem gX0_forDriver_X0_holds : GoodIn wsX0_forDriver (va_wsS RX0 32 yX0_holds wsX0_holds) := goodIn_app (goodIn_of _ (by decide +kernel)) ggX0_forDriver_X0_holds
theorem dX0_forDriver_0 : decode cX0_forDriver 0 = .ok (.aload_n 0, 1) := by decide +kernel
theorem dX0_forDriver_1 : decode cX0_forDriver 1 = .ok (.getfield 18, 3) := by decide +kernel
theorem dX0_forDriver_4 : decode cX0_forDriver 4 = .ok (.iload_n 1, 1) := by decide +kernel
theorem dX0_forDriver_5 : decode cX0_forDriver 5 = .ok (.iaload, 1) := by decide +kernel
theorem dX0_forDriver_6 : decode cX0_forDriver 6 = .ok (.istore_n 2, 1) := by decide +kernel
theorem dX0_forDriver_7 : decode cX0_forDriver 7 = .ok (.aload_n 0, 1) := by decide +kernel
theorem dX0_forDriver_8 : decode cX0_forDriver 8 = .ok (.getfield 54, 3) := by decide +kernel
theorem dX0_forDriver_11 : decode cX0_forDriver 11 = .ok (.iload_n 1, 1) := by decide +kernel
theorem dX0_forDriver_12 : decode cX0_forDriver 12 = .ok (.invokestatic 32, 3) := by decide +kernel
theorem dX0_forDriver_15 : decode cX0_forDriver 15 = .ok (.ifCond .eq 12, 3) := by decide +kernel
theorem dX0_forDriver_18 : decode cX0_forDriver 18 = .ok (.iload_n 2, 1) := by decide +kernel
theorem dX0_forDriver_19 : decode cX0_forDriver 19 = .ok (.aload_n 0, 1) := by decide +kernel
theorem dX0_forDriver_20 : decode cX0_forDriver 20 = .ok (.getfield 22, 3) := by decide +kernel
theorem dX0_forDriver_23 : decode cX0_forDriver 23 = .ok (.iload_n 1, 1) := by decide +kernel
theorem dX0_forDriver_24 : decode cX0_forDriver 24 = .ok (.iaload, 1) := by decide +kernel
theorem dX0_forDriver_25 : decode cX0_forDriver 25 = .ok (.isub, 1) := by decide +kernel
theorem dX0_forDriver_26 : decode cX0_forDriver 26 = .ok (.istore_n 2, 1) := by decide +kernel
theorem dX0_forDriver_27 : decode cX0_forDriver 27 = .ok (.iload_n 2, 1) := by decide +kernel
theorem dX0_forDriver_28 : decode cX0_forDriver 28 = .ok (.iload_n 2, 1) := by decide +kernel
theorem dX0_forDriver_29 : decode cX0_forDriver 29 = .ok (.iconst 5, 1) := by decide +kernel
theorem dX0_forDriver_30 : decode cX0_forDriver 30 = .ok (.idiv, 1) := by decide +kernel
theorem dX0_forDriver_31 : decode cX0_forDriver 31 = .ok (.isub, 1) := by decide +kernel
theorem dX0_forDriver_32 : decode cX0_forDriver 32 = .ok (.ireturn, 1) := by decide +kernel
set_option maxRecDepth 20000 in
theorem ggX0_countsAsVoid_X0_holds : GoodIn wsX0_countsAsVoid wsX0_holds := goodIn_r _ [8] (by decide +kernel) (by decide +kernel)
set_option maxRecDepth 20000 in
theorem gX0_countsAsVoid_X0_holds : GoodIn wsX0_countsAsVoid (va_wsS RX0 32 yX0_holds wsX0_holds) := goodIn_app (goodIn_of _ (by decide +kernel)) ggX0_countsAsVoid_X0_holds
theorem dX0_countsAsVoid_0 : decode cX0_countsAsVoid 0 = .ok (.iconst 0, 1) := by decide +kernel
theorem dX0_countsAsVoid_1 : decode cX0_countsAsVoid 1 = .ok (.istore_n 1, 1) := by decide +kernel
theorem dX0_countsAsVoid_2 : decode cX0_countsAsVoid 2 = .ok (.iconst 0, 1) := by decide +kernel
theorem dX0_countsAsVoid_3 : decode cX0_countsAsVoid 3 = .ok (.istore_n 2, 1) := by decide +kernel
theorem dX0_countsAsVoid_4 : decode cX0_countsAsVoid 4 = .ok (.iload_n 2, 1) := by decide +kernel
theorem dX0_countsAsVoid_5 : decode cX0_countsAsVoid 5 = .ok (.bipush 10, 2) := by decide +kernel
theorem dX0_countsAsVoid_7 : decode cX0_countsAsVoid 7 = .ok (.if_icmp .ge 48, 3) := by decide +kernel
theorem dX0_countsAsVoid_10 : decode cX0_countsAsVoid 10 = .ok (.aload_n 0, 1) := by decide +kernel
theorem dX0_countsAsVoid_11 : decode cX0_countsAsVoid 11 = .ok (.getfield 18, 3) := by decide +kernel
theorem dX0_countsAsVoid_14 : decode cX0_countsAsVoid 14 = .ok (.iload_n 2, 1) := by decide +kernel
theorem dX0_countsAsVoid_15 : decode cX0_countsAsVoid 15 = .ok (.iaload, 1) := by decide +kernel
theorem dX0_countsAsVoid_16 : decode cX0_countsAsVoid 16 = .ok (.ifCond .le 33, 3) := by decide +kernel
theorem dX0_countsAsVoid_19 : decode cX0_countsAsVoid 19 = .ok (.iconst 1, 1) := by decide +kernel
theorem dX0_countsAsVoid_20 : decode cX0_countsAsVoid 20 = .ok (.istore_n 1, 1) := by decide +kernel
theorem dX0_countsAsVoid_21 : decode cX0_countsAsVoid 21 = .ok (.aload_n 0, 1) := by decide +kernel
theorem dX0_countsAsVoid_22 : decode cX0_countsAsVoid 22 = .ok (.getfield 54, 3) := by decide +kernel
theorem dX0_countsAsVoid_25 : decode cX0_countsAsVoid 25 = .ok (.iload_n 2, 1) := by decide +kernel
theorem dX0_countsAsVoid_26 : decode cX0_countsAsVoid 26 = .ok (.invokestatic 32, 3) := by decide +kernel
theorem dX0_countsAsVoid_29 : decode cX0_countsAsVoid 29 = .ok (.ifCond .eq 18, 3) := by decide +kernel
theorem dX0_countsAsVoid_32 : decode cX0_countsAsVoid 32 = .ok (.aload_n 0, 1) := by decide +kernel
theorem dX0_countsAsVoid_33 : decode cX0_countsAsVoid 33 = .ok (.getfield 22, 3) := by decide +kernel
theorem dX0_countsAsVoid_36 : decode cX0_countsAsVoid 36 = .ok (.iload_n 2, 1) := by decide +kernel
theorem dX0_countsAsVoid_37 : decode cX0_countsAsVoid 37 = .ok (.iaload, 1) := by decide +kernel
theorem dX0_countsAsVoid_38 : decode cX0_countsAsVoid 38 = .ok (.aload_n 0, 1) := by decide +kernel
theorem dX0_countsAsVoid_39 : decode cX0_countsAsVoid 39 = .ok (.getfield 18, 3) := by decide +kernel
theorem dX0_countsAsVoid_42 : decode cX0_countsAsVoid 42 = .ok (.iload_n 2, 1) := by decide +kernel
theorem dX0_countsAsVoid_43 : decode cX0_countsAsVoid 43 = .ok (.iaload, 1) := by decide +kernel
theorem dX0_countsAsVoid_44 : decode cX0_countsAsVoid 44 = .ok (.if_icmp .eq 5, 3) := by decide +kernel
theorem dX0_countsAsVoid_47 : decode cX0_countsAsVoid 47 = .ok (.iconst 0, 1) := by decide +kernel
theorem dX0_countsAsVoid_48 : decode cX0_countsAsVoid 48 = .ok (.ireturn, 1) := by decide +kernel
theorem dX0_countsAsVoid_49 : decode cX0_countsAsVoid 49 = .ok (.iinc 2 1, 3) := by decide +kernel
theorem dX0_countsAsVoid_52 : decode cX0_countsAsVoid 52 = .ok (.goto (-48), 3) := by decide +kernel
theorem dX0_countsAsVoid_55 : decode cX0_countsAsVoid 55 = .ok (.aload_n 0, 1) := by decide +kernel
theorem dX0_countsAsVoid_56 : decode cX0_countsAsVoid 56 = .ok (.getfield 25, 3) := by decide +kernel
theorem dX0_countsAsVoid_59 : decode cX0_countsAsVoid 59 = .ok (.ifCond .eq 11, 3) := by decide +kernel
theorem dX0_countsAsVoid_62 : decode cX0_countsAsVoid 62 = .ok (.iload_n 1, 1) := by decide +kernel
theorem dX0_countsAsVoid_63 : decode cX0_countsAsVoid 63 = .ok (.ifCond .eq 7, 3) := by decide +kernel
theorem dX0_countsAsVoid_66 : decode cX0_countsAsVoid 66 = .ok (.iconst 1, 1) := by decide +kernel
theorem dX0_countsAsVoid_67 : decode cX0_countsAsVoid 67 = .ok (.goto 4, 3) := by decide +kernel
theorem dX0_countsAsVoid_70 : decode cX0_countsAsVoid 70 = .ok (.iconst 0, 1) := by decide +kernel
theorem dX0_countsAsVoid_71 : decode cX0_countsAsVoid 71 = .ok (.ireturn, 1) := by decide +kernel
set_option maxRecDepth 20000 in
theorem ggX1_init_Jx4a65c_init_da8c8 : GoodIn wsX1_init wsJx4a65c_init_da8c8 := goodIn_r _ [15, 16, 17, 18, 19, 20, 21, 22, 23, 24, 25, 26, 27, 2, 3, 28, 29, 30] (by decide +kernel) (by decide +kernel)
set_option maxRecDepth 20000 in
theorem gX1_init_Jx4a65c_init_da8c8 : GoodIn wsX1_init (wsJx4a65c_init_da8c8) := ggX1_init_Jx4a65c_init_da8c8
theorem dX1_init_0 : decode cX1_init 0 = .ok (.aload_n 0, 1) := by decide +kernel
theorem dX1_init_1 : decode cX1_init 1 = .ok (.invokespecial 1, 3) := by decide +kernel
theorem dX1_init_4 : decode cX1_init 4 = .ok (.aload_n 0, 1) := by decide +kernel
theorem dX1_init_5 : decode cX1_init 5 = .ok (.new 7, 3) := by decide +kernel
theorem dX1_init_8 : decode cX1_init 8 = .ok (.dup, 1) := by decide +kernel
theorem dX1_init_9 : decode cX1_init 9 = .ok (.invokespecial 9, 3) := by decide +kernel
theorem dX1_init_12 : decode cX1_init 12 = .ok (.putfield 10, 3) := by decide +kernel
theorem dX1_init_15 : decode cX1_init 15 = .ok (.aload_n 0, 1) := by decide +kernel
theorem dX1_init_16 : decode cX1_init 16 = .ok (.iconst 5, 1) := by decide +kernel
theorem dX1_init_17 : decode cX1_init 17 = .ok (.newarray .int, 2) := by decide +kernel
theorem dX1_init_19 : decode cX1_init 19 = .ok (.putfield 16, 3) := by decide +kernel
theorem dX1_init_22 : decode cX1_init 22 = .ok (.aload_n 0, 1) := by decide +kernel
theorem dX1_init_23 : decode cX1_init 23 = .ok (.bipush 100, 2) := by decide +kernel
theorem dX1_init_25 : decode cX1_init 25 = .ok (.putfield 20, 3) := by decide +kernel
theorem dX1_init_28 : decode cX1_init 28 = .ok (.aload_n 0, 1) := by decide +kernel
theorem dX1_init_29 : decode cX1_init 29 = .ok (.bipush 20, 2) := by decide +kernel
theorem dX1_init_31 : decode cX1_init 31 = .ok (.putfield 24, 3) := by decide +kernel
theorem dX1_init_34 : decode cX1_init 34 = .ok (.aload_n 0, 1) := by decide +kernel
theorem dX1_init_35 : decode cX1_init 35 = .ok (.iconst 0, 1) := by decide +kernel
theorem dX1_init_36 : decode cX1_init 36 = .ok (.putfield 27, 3) := by decide +kernel
theorem dX1_init_39 : decode cX1_init 39 = .ok (.return_, 1) := by decide +kernel
set_option maxRecDepth 20000 in
theorem ggX1_setRates_X1_checkRange : GoodIn wsX1_setRates wsX1_checkRange := goodIn_ca (goodIn_r _ [6, 7, 8] (by decide +kernel) (by decide +kernel)) (goodIn_sub (fun _ h => List.mem_cons_of_mem _ (List.mem_append_right _ h)) (by decide +kernel))
set_option maxRecDepth 20000 in
theorem gX1_setRates_X1_checkRange : GoodIn wsX1_setRates (va_wsS RX1 30 yX1_checkRange wsX1_checkRange) := goodIn_app (goodIn_of _ (by decide +kernel)) ggX1_setRates_X1_checkRange
theorem dX1_setRates_0 : decode cX1_setRates 0 = .ok (.iload_n 1, 1) := by decide +kernel
theorem dX1_setRates_1 : decode cX1_setRates 1 = .ok (.iconst 0, 1) := by decide +kernel
theorem dX1_setRates_2 : decode cX1_setRates 2 = .ok (.sipush 1000, 3) := by decide +kernel
theorem dX1_setRates_5 : decode cX1_setRates 5 = .ok (.invokestatic 30, 3) := by decide +kernel
theorem dX1_setRates_8 : decode cX1_setRates 8 = .ok (.iload_n 2, 1) := by decide +kernel
theorem dX1_setRates_9 : decode cX1_setRates 9 = .ok (.iconst 0, 1) := by decide +kernel
theorem dX1_setRates_10 : decode cX1_setRates 10 = .ok (.sipush 1000, 3) := by decide +kernel
theorem dX1_setRates_13 : decode cX1_setRates 13 = .ok (.invokestatic 30, 3) := by decide +kernel
theorem dX1_setRates_16 : decode cX1_setRates 16 = .ok (.aload_n 0, 1) := by decide +kernel
theorem dX1_setRates_17 : decode cX1_setRates 17 = .ok (.iload_n 1, 1) := by decide +kernel
theorem dX1_setRates_18 : decode cX1_setRates 18 = .ok (.putfield 20, 3) := by decide +kernel
theorem dX1_setRates_21 : decode cX1_setRates 21 = .ok (.aload_n 0, 1) := by decide +kernel
theorem dX1_setRates_22 : decode cX1_setRates 22 = .ok (.iload_n 2, 1) := by decide +kernel
theorem dX1_setRates_23 : decode cX1_setRates 23 = .ok (.putfield 24, 3) := by decide +kernel
theorem dX1_setRates_26 : decode cX1_setRates 26 = .ok (.return_, 1) := by decide +kernel
set_option maxRecDepth 20000 in
theorem ggX1_start_X1_checkDriver : GoodIn wsX1_start wsX1_checkDriver := goodIn_ca (goodIn_r _ [11, 12, 13] (by decide +kernel) (by decide +kernel)) (goodIn_sub (fun _ h => List.mem_cons_of_mem _ (List.mem_append_right _ h)) (by decide +kernel))
set_option maxRecDepth 20000 in
theorem gX1_start_X1_checkDriver : GoodIn wsX1_start (va_wsS RX1 34 yX1_checkDriver wsX1_checkDriver) := goodIn_app (goodIn_of _ (by decide +kernel)) ggX1_start_X1_checkDriver
set_option maxRecDepth 20000 in
theorem ggX1_start_Jx4a65c_size_8abf5 : GoodIn wsX1_start wsJx4a65c_size_8abf5 := goodIn_r _ [18, 19, 131, 132, 133] (by decide +kernel) (by decide +kernel)
set_option maxRecDepth 20000 in
theorem gX1_start_Jx4a65c_size_8abf5 : GoodIn wsX1_start (wsV RX1 38 RJx4a65c yJx4a65c_size_8abf5 wsJx4a65c_size_8abf5) := goodIn_app (goodIn_of _ (by decide +kernel)) ggX1_start_Jx4a65c_size_8abf5
set_option maxRecDepth 20000 in
theorem ggX1_start_X1_isDriving : GoodIn wsX1_start wsX1_isDriving := goodIn_r _ [23, 3, 24, 14, 15, 16, 17, 18, 19, 25, 26, 27, 28, 29, 30, 31, 32, 33, 34, 35, 36, 37, 38, 39, 40, 41, 42, 43, 44, 6, 45, 46, 47, 48, 49, 50, 51, 115, 116, 117, 118, 119, 131, 132, 133, 120, 121, 122, 123, 124, 125, 126, 127, 128, 129, 130] (by decide +kernel) (by decide +kernel)
set_option maxRecDepth 20000 in
theorem gX1_start_X1_isDriving : GoodIn wsX1_start (wsV RX1 49 RX1 yX1_isDriving wsX1_isDriving) := goodIn_app (goodIn_of _ (by decide +kernel)) ggX1_start_X1_isDriving
set_option maxRecDepth 20000 in
theorem ggX1_start_X0_init : GoodIn wsX1_start wsX0_init := goodIn_r _ [54, 55, 56, 57, 46, 58, 59, 60, 61, 120, 121, 122, 123, 124, 125, 126, 127, 128, 129, 130] (by decide +kernel) (by decide +kernel)
set_option maxRecDepth 20000 in
theorem gX1_start_X0_init : GoodIn wsX1_start (wsX0_init) := ggX1_start_X0_init
set_option maxRecDepth 20000 in
theorem ggX1_start_Jx4a65c_add_9ea2d : GoodIn wsX1_start wsJx4a65c_add_9ea2d := goodIn_r _ [65, 66, 67, 41, 19, 68, 69, 70, 17, 71, 72, 73, 74, 75, 76, 77, 78, 79, 80, 81, 82, 83, 84, 85, 86, 87, 88, 89, 90, 91, 92, 93, 94, 95, 96, 97, 98, 99, 100, 101, 102, 103, 104, 105, 106, 107, 108, 109, 110, 111, 112, 113, 114, 131, 132, 133] (by decide +kernel) (by decide +kernel)
set_option maxRecDepth 20000 in
theorem gX1_start_Jx4a65c_add_9ea2d : GoodIn wsX1_start (wsV RX1 60 RJx4a65c yJx4a65c_add_9ea2d wsJx4a65c_add_9ea2d) := goodIn_app (goodIn_of _ (by decide +kernel)) ggX1_start_Jx4a65c_add_9ea2d
theorem dX1_start_0 : decode cX1_start 0 = .ok (.iload_n 1, 1) := by decide +kernel
theorem dX1_start_1 : decode cX1_start 1 = .ok (.invokestatic 34, 3) := by decide +kernel
theorem dX1_start_4 : decode cX1_start 4 = .ok (.aload_n 0, 1) := by decide +kernel
theorem dX1_start_5 : decode cX1_start 5 = .ok (.getfield 10, 3) := by decide +kernel
theorem dX1_start_8 : decode cX1_start 8 = .ok (.invokevirtual 38, 3) := by decide +kernel
theorem dX1_start_11 : decode cX1_start 11 = .ok (.bipush 40, 2) := by decide +kernel
theorem dX1_start_13 : decode cX1_start 13 = .ok (.if_icmp .lt 13, 3) := by decide +kernel
theorem dX1_start_16 : decode cX1_start 16 = .ok (.new 42, 3) := by decide +kernel
theorem dX1_start_19 : decode cX1_start 19 = .ok (.dup, 1) := by decide +kernel
theorem dX1_start_20 : decode cX1_start 20 = .ok (.ldc 44, 2) := by decide +kernel
theorem dX1_start_22 : decode cX1_start 22 = .ok (.invokespecial 46, 3) := by decide +kernel
theorem dX1_start_25 : decode cX1_start 25 = .ok (.athrow, 1) := by decide +kernel
theorem dX1_start_26 : decode cX1_start 26 = .ok (.aload_n 0, 1) := by decide +kernel
theorem dX1_start_27 : decode cX1_start 27 = .ok (.iload_n 1, 1) := by decide +kernel
theorem dX1_start_28 : decode cX1_start 28 = .ok (.invokevirtual 49, 3) := by decide +kernel
theorem dX1_start_31 : decode cX1_start 31 = .ok (.ifCond .eq 13, 3) := by decide +kernel
theorem dX1_start_34 : decode cX1_start 34 = .ok (.new 42, 3) := by decide +kernel
theorem dX1_start_37 : decode cX1_start 37 = .ok (.dup, 1) := by decide +kernel
theorem dX1_start_38 : decode cX1_start 38 = .ok (.ldc 53, 2) := by decide +kernel
theorem dX1_start_40 : decode cX1_start 40 = .ok (.invokespecial 46, 3) := by decide +kernel
theorem dX1_start_43 : decode cX1_start 43 = .ok (.athrow, 1) := by decide +kernel
theorem dX1_start_44 : decode cX1_start 44 = .ok (.aload_n 0, 1) := by decide +kernel
theorem dX1_start_45 : decode cX1_start 45 = .ok (.getfield 10, 3) := by decide +kernel
theorem dX1_start_48 : decode cX1_start 48 = .ok (.new 55, 3) := by decide +kernel
theorem dX1_start_51 : decode cX1_start 51 = .ok (.dup, 1) := by decide +kernel
theorem dX1_start_52 : decode cX1_start 52 = .ok (.iload_n 1, 1) := by decide +kernel
theorem dX1_start_53 : decode cX1_start 53 = .ok (.aload_n 0, 1) := by decide +kernel
theorem dX1_start_54 : decode cX1_start 54 = .ok (.getfield 27, 3) := by decide +kernel
theorem dX1_start_57 : decode cX1_start 57 = .ok (.invokespecial 57, 3) := by decide +kernel
theorem dX1_start_60 : decode cX1_start 60 = .ok (.invokevirtual 60, 3) := by decide +kernel
theorem dX1_start_63 : decode cX1_start 63 = .ok (.pop, 1) := by decide +kernel
theorem dX1_start_64 : decode cX1_start 64 = .ok (.aload_n 0, 1) := by decide +kernel
theorem dX1_start_65 : decode cX1_start 65 = .ok (.getfield 10, 3) := by decide +kernel
theorem dX1_start_68 : decode cX1_start 68 = .ok (.invokevirtual 38, 3) := by decide +kernel
theorem dX1_start_71 : decode cX1_start 71 = .ok (.iconst 1, 1) := by decide +kernel
theorem dX1_start_72 : decode cX1_start 72 = .ok (.isub, 1) := by decide +kernel
theorem dX1_start_73 : decode cX1_start 73 = .ok (.ireturn, 1) := by decide +kernel
set_option maxRecDepth 20000 in
theorem ggX1_book_X1_rideUnderWay : GoodIn wsX1_book wsX1_rideUnderWay := goodIn_ca (goodIn_ca (goodIn_r _ [7, 8, 9, 10, 6, 11, 12, 13, 14, 15, 16, 17, 18, 19, 20, 21, 22, 23, 24, 25, 26, 27, 28, 29, 30, 31, 32, 33, 34, 35, 36, 37, 38, 39, 40, 41, 42, 43, 44, 1, 2, 45, 46, 47, 48, 49, 50, 79, 80, 81, 82, 83, 84, 85, 86, 87, 88, 89, 90, 91, 92, 93, 94, 95, 96, 97] (by decide +kernel) (by decide +kernel)) (goodIn_sub (fun _ h => List.mem_cons_of_mem _ (List.mem_append_right _ h)) (by decide +kernel))) (goodIn_sub (fun _ h => List.mem_cons_of_mem _ (List.mem_append_left _ (List.mem_append_right _ h))) (by decide +kernel))
set_option maxRecDepth 20000 in
theorem gX1_book_X1_rideUnderWay : GoodIn wsX1_book (wsV RX1 64 RX1 yX1_rideUnderWay wsX1_rideUnderWay) := goodIn_app (goodIn_of _ (by decide +kernel)) ggX1_book_X1_rideUnderWay
set_option maxRecDepth 20000 in
theorem ggX1_book_X0_hasBooked : GoodIn wsX1_book wsX0_hasBooked := goodIn_r _ [54, 55, 56, 57, 48, 58, 87, 88, 89, 90, 91, 92, 93, 94, 95, 96, 97] (by decide +kernel) (by decide +kernel)
set_option maxRecDepth 20000 in
theorem gX1_book_X0_hasBooked : GoodIn wsX1_book (wsV RX1 68 RX0 yX0_hasBooked wsX0_hasBooked) := goodIn_app (goodIn_of _ (by decide +kernel)) ggX1_book_X0_hasBooked
set_option maxRecDepth 20000 in
theorem ggX1_book_X0_hasAboard : GoodIn wsX1_book wsX0_hasAboard := goodIn_r _ [62, 63, 56, 57, 48, 58, 87, 88, 89, 90, 91, 92, 93, 94, 95, 96, 97] (by decide +kernel) (by decide +kernel)
set_option maxRecDepth 20000 in
theorem gX1_book_X0_hasAboard : GoodIn wsX1_book (wsV RX1 71 RX0 yX0_hasAboard wsX0_hasAboard) := goodIn_app (goodIn_of _ (by decide +kernel)) ggX1_book_X0_hasAboard
set_option maxRecDepth 20000 in
theorem ggX1_book_X0_freeSeats : GoodIn wsX1_book wsX0_freeSeats := goodIn_r _ [67, 55, 63, 68, 69, 70, 71, 72, 73, 74, 87, 88, 89, 90, 91, 92, 93, 94, 95, 96, 97] (by decide +kernel) (by decide +kernel)
set_option maxRecDepth 20000 in
theorem gX1_book_X0_freeSeats : GoodIn wsX1_book (wsV RX1 76 RX0 yX0_freeSeats wsX0_freeSeats) := goodIn_app (goodIn_of _ (by decide +kernel)) ggX1_book_X0_freeSeats
set_option maxRecDepth 20000 in
theorem ggX1_book_X0_addBooking : GoodIn wsX1_book wsX0_addBooking := goodIn_r _ [78, 55, 87, 88, 89, 90, 91, 92, 93, 94, 95, 96, 97] (by decide +kernel) (by decide +kernel)
set_option maxRecDepth 20000 in
theorem gX1_book_X0_addBooking : GoodIn wsX1_book (wsV RX1 81 RX0 yX0_addBooking wsX0_addBooking) := goodIn_app (goodIn_of _ (by decide +kernel)) ggX1_book_X0_addBooking
theorem dX1_book_0 : decode cX1_book 0 = .ok (.aload_n 0, 1) := by decide +kernel
theorem dX1_book_1 : decode cX1_book 1 = .ok (.iload_n 1, 1) := by decide +kernel
theorem dX1_book_2 : decode cX1_book 2 = .ok (.iload_n 2, 1) := by decide +kernel
theorem dX1_book_3 : decode cX1_book 3 = .ok (.invokevirtual 64, 3) := by decide +kernel
theorem dX1_book_6 : decode cX1_book 6 = .ok (.astore_n 3, 1) := by decide +kernel
theorem dX1_book_7 : decode cX1_book 7 = .ok (.aload_n 3, 1) := by decide +kernel
theorem dX1_book_8 : decode cX1_book 8 = .ok (.iload_n 2, 1) := by decide +kernel
theorem dX1_book_9 : decode cX1_book 9 = .ok (.invokevirtual 68, 3) := by decide +kernel
theorem dX1_book_12 : decode cX1_book 12 = .ok (.ifCond .ne 11, 3) := by decide +kernel
theorem dX1_book_15 : decode cX1_book 15 = .ok (.aload_n 3, 1) := by decide +kernel
theorem dX1_book_16 : decode cX1_book 16 = .ok (.iload_n 2, 1) := by decide +kernel
theorem dX1_book_17 : decode cX1_book 17 = .ok (.invokevirtual 71, 3) := by decide +kernel
theorem dX1_book_20 : decode cX1_book 20 = .ok (.ifCond .eq 13, 3) := by decide +kernel
theorem dX1_book_23 : decode cX1_book 23 = .ok (.new 42, 3) := by decide +kernel
theorem dX1_book_26 : decode cX1_book 26 = .ok (.dup, 1) := by decide +kernel
theorem dX1_book_27 : decode cX1_book 27 = .ok (.ldc 74, 2) := by decide +kernel
theorem dX1_book_29 : decode cX1_book 29 = .ok (.invokespecial 46, 3) := by decide +kernel
theorem dX1_book_32 : decode cX1_book 32 = .ok (.athrow, 1) := by decide +kernel
theorem dX1_book_33 : decode cX1_book 33 = .ok (.aload_n 3, 1) := by decide +kernel
theorem dX1_book_34 : decode cX1_book 34 = .ok (.invokevirtual 76, 3) := by decide +kernel
theorem dX1_book_37 : decode cX1_book 37 = .ok (.ifCond .gt 13, 3) := by decide +kernel
theorem dX1_book_40 : decode cX1_book 40 = .ok (.new 42, 3) := by decide +kernel
theorem dX1_book_43 : decode cX1_book 43 = .ok (.dup, 1) := by decide +kernel
theorem dX1_book_44 : decode cX1_book 44 = .ok (.ldc 79, 2) := by decide +kernel
theorem dX1_book_46 : decode cX1_book 46 = .ok (.invokespecial 46, 3) := by decide +kernel
theorem dX1_book_49 : decode cX1_book 49 = .ok (.athrow, 1) := by decide +kernel
theorem dX1_book_50 : decode cX1_book 50 = .ok (.aload_n 3, 1) := by decide +kernel
theorem dX1_book_51 : decode cX1_book 51 = .ok (.iload_n 2, 1) := by decide +kernel
theorem dX1_book_52 : decode cX1_book 52 = .ok (.invokevirtual 81, 3) := by decide +kernel
theorem dX1_book_55 : decode cX1_book 55 = .ok (.aload_n 3, 1) := by decide +kernel
theorem dX1_book_56 : decode cX1_book 56 = .ok (.invokevirtual 76, 3) := by decide +kernel
theorem dX1_book_59 : decode cX1_book 59 = .ok (.ireturn, 1) := by decide +kernel
set_option maxRecDepth 20000 in
theorem ggX1_cancel_X1_rideUnderWay : GoodIn wsX1_cancel wsX1_rideUnderWay := goodIn_ca (goodIn_ca (goodIn_r _ [7, 8, 9, 10, 6, 11, 12, 13, 14, 15, 16, 17, 18, 19, 20, 21, 22, 23, 24, 25, 26, 27, 28, 29, 30, 31, 32, 33, 34, 35, 36, 37, 38, 39, 40, 41, 42, 43, 44, 1, 2, 45, 46, 47, 48, 49, 50, 65, 66, 67, 68, 69, 70, 71, 72, 73, 74, 75, 76, 77, 78, 79, 80, 81, 82, 83] (by decide +kernel) (by decide +kernel)) (goodIn_sub (fun _ h => List.mem_cons_of_mem _ (List.mem_append_right _ h)) (by decide +kernel))) (goodIn_sub (fun _ h => List.mem_cons_of_mem _ (List.mem_append_left _ (List.mem_append_right _ h))) (by decide +kernel))
set_option maxRecDepth 20000 in
theorem gX1_cancel_X1_rideUnderWay : GoodIn wsX1_cancel (wsV RX1 64 RX1 yX1_rideUnderWay wsX1_rideUnderWay) := goodIn_app (goodIn_of _ (by decide +kernel)) ggX1_cancel_X1_rideUnderWay
set_option maxRecDepth 20000 in
theorem ggX1_cancel_X0_hasBooked : GoodIn wsX1_cancel wsX0_hasBooked := goodIn_r _ [54, 55, 56, 57, 48, 58, 73, 74, 75, 76, 77, 78, 79, 80, 81, 82, 83] (by decide +kernel) (by decide +kernel)
set_option maxRecDepth 20000 in
theorem gX1_cancel_X0_hasBooked : GoodIn wsX1_cancel (wsV RX1 68 RX0 yX0_hasBooked wsX0_hasBooked) := goodIn_app (goodIn_of _ (by decide +kernel)) ggX1_cancel_X0_hasBooked
set_option maxRecDepth 20000 in
theorem ggX1_cancel_X0_dropBooking : GoodIn wsX1_cancel wsX0_dropBooking := goodIn_r _ [62, 55, 63, 64, 73, 74, 75, 76, 77, 78, 79, 80, 81, 82, 83] (by decide +kernel) (by decide +kernel)
set_option maxRecDepth 20000 in
theorem gX1_cancel_X0_dropBooking : GoodIn wsX1_cancel (wsV RX1 86 RX0 yX0_dropBooking wsX0_dropBooking) := goodIn_app (goodIn_of _ (by decide +kernel)) ggX1_cancel_X0_dropBooking
theorem dX1_cancel_0 : decode cX1_cancel 0 = .ok (.aload_n 0, 1) := by decide +kernel
theorem dX1_cancel_1 : decode cX1_cancel 1 = .ok (.iload_n 1, 1) := by decide +kernel
theorem dX1_cancel_2 : decode cX1_cancel 2 = .ok (.iload_n 2, 1) := by decide +kernel
theorem dX1_cancel_3 : decode cX1_cancel 3 = .ok (.invokevirtual 64, 3) := by decide +kernel
theorem dX1_cancel_6 : decode cX1_cancel 6 = .ok (.astore_n 3, 1) := by decide +kernel
theorem dX1_cancel_7 : decode cX1_cancel 7 = .ok (.aload_n 3, 1) := by decide +kernel
theorem dX1_cancel_8 : decode cX1_cancel 8 = .ok (.iload_n 2, 1) := by decide +kernel
theorem dX1_cancel_9 : decode cX1_cancel 9 = .ok (.invokevirtual 68, 3) := by decide +kernel
theorem dX1_cancel_12 : decode cX1_cancel 12 = .ok (.ifCond .ne 13, 3) := by decide +kernel
theorem dX1_cancel_15 : decode cX1_cancel 15 = .ok (.new 42, 3) := by decide +kernel
theorem dX1_cancel_18 : decode cX1_cancel 18 = .ok (.dup, 1) := by decide +kernel
theorem dX1_cancel_19 : decode cX1_cancel 19 = .ok (.ldc 84, 2) := by decide +kernel
theorem dX1_cancel_21 : decode cX1_cancel 21 = .ok (.invokespecial 46, 3) := by decide +kernel
theorem dX1_cancel_24 : decode cX1_cancel 24 = .ok (.athrow, 1) := by decide +kernel
theorem dX1_cancel_25 : decode cX1_cancel 25 = .ok (.aload_n 3, 1) := by decide +kernel
theorem dX1_cancel_26 : decode cX1_cancel 26 = .ok (.iload_n 2, 1) := by decide +kernel
theorem dX1_cancel_27 : decode cX1_cancel 27 = .ok (.invokevirtual 86, 3) := by decide +kernel
theorem dX1_cancel_30 : decode cX1_cancel 30 = .ok (.ireturn, 1) := by decide +kernel
set_option maxRecDepth 20000 in
theorem ggX1_board_X1_rideUnderWay : GoodIn wsX1_board wsX1_rideUnderWay := goodIn_ca (goodIn_ca (goodIn_r _ [7, 8, 9, 10, 6, 11, 12, 13, 14, 15, 16, 17, 18, 19, 20, 21, 22, 23, 24, 25, 26, 27, 28, 29, 30, 31, 32, 33, 34, 35, 36, 37, 38, 39, 40, 41, 42, 43, 44, 1, 2, 45, 46, 47, 48, 49, 50, 79, 80, 81, 82, 83, 84, 85, 86, 87, 88, 89, 90, 91, 92, 93, 94, 95, 96, 97] (by decide +kernel) (by decide +kernel)) (goodIn_sub (fun _ h => List.mem_cons_of_mem _ (List.mem_append_right _ h)) (by decide +kernel))) (goodIn_sub (fun _ h => List.mem_cons_of_mem _ (List.mem_append_left _ (List.mem_append_right _ h))) (by decide +kernel))
set_option maxRecDepth 20000 in
theorem gX1_board_X1_rideUnderWay : GoodIn wsX1_board (wsV RX1 64 RX1 yX1_rideUnderWay wsX1_rideUnderWay) := goodIn_app (goodIn_of _ (by decide +kernel)) ggX1_board_X1_rideUnderWay
set_option maxRecDepth 20000 in
theorem ggX1_board_X0_hasAboard : GoodIn wsX1_board wsX0_hasAboard := goodIn_r _ [54, 55, 56, 57, 48, 58, 87, 88, 89, 90, 91, 92, 93, 94, 95, 96, 97] (by decide +kernel) (by decide +kernel)
set_option maxRecDepth 20000 in
theorem gX1_board_X0_hasAboard : GoodIn wsX1_board (wsV RX1 71 RX0 yX0_hasAboard wsX0_hasAboard) := goodIn_app (goodIn_of _ (by decide +kernel)) ggX1_board_X0_hasAboard
set_option maxRecDepth 20000 in
theorem ggX1_board_X0_hasBooked : GoodIn wsX1_board wsX0_hasBooked := goodIn_r _ [62, 63, 56, 57, 48, 58, 87, 88, 89, 90, 91, 92, 93, 94, 95, 96, 97] (by decide +kernel) (by decide +kernel)
set_option maxRecDepth 20000 in
theorem gX1_board_X0_hasBooked : GoodIn wsX1_board (wsV RX1 68 RX0 yX0_hasBooked wsX0_hasBooked) := goodIn_app (goodIn_of _ (by decide +kernel)) ggX1_board_X0_hasBooked
set_option maxRecDepth 20000 in
theorem ggX1_board_X0_freeSeats : GoodIn wsX1_board wsX0_freeSeats := goodIn_r _ [67, 63, 55, 68, 69, 70, 71, 72, 73, 74, 87, 88, 89, 90, 91, 92, 93, 94, 95, 96, 97] (by decide +kernel) (by decide +kernel)
set_option maxRecDepth 20000 in
theorem gX1_board_X0_freeSeats : GoodIn wsX1_board (wsV RX1 76 RX0 yX0_freeSeats wsX0_freeSeats) := goodIn_app (goodIn_of _ (by decide +kernel)) ggX1_board_X0_freeSeats
set_option maxRecDepth 20000 in
theorem ggX1_board_X0_takeAboard : GoodIn wsX1_board wsX0_takeAboard := goodIn_r _ [78, 63, 55, 68, 69, 70, 71, 72, 73, 74, 87, 88, 89, 90, 91, 92, 93, 94, 95, 96, 97] (by decide +kernel) (by decide +kernel)
set_option maxRecDepth 20000 in
theorem gX1_board_X0_takeAboard : GoodIn wsX1_board (wsV RX1 94 RX0 yX0_takeAboard wsX0_takeAboard) := goodIn_app (goodIn_of _ (by decide +kernel)) ggX1_board_X0_takeAboard
theorem dX1_board_0 : decode cX1_board 0 = .ok (.aload_n 0, 1) := by decide +kernel
theorem dX1_board_1 : decode cX1_board 1 = .ok (.iload_n 1, 1) := by decide +kernel
theorem dX1_board_2 : decode cX1_board 2 = .ok (.iload_n 2, 1) := by decide +kernel
theorem dX1_board_3 : decode cX1_board 3 = .ok (.invokevirtual 64, 3) := by decide +kernel
theorem dX1_board_6 : decode cX1_board 6 = .ok (.astore_n 3, 1) := by decide +kernel
theorem dX1_board_7 : decode cX1_board 7 = .ok (.aload_n 3, 1) := by decide +kernel
theorem dX1_board_8 : decode cX1_board 8 = .ok (.iload_n 2, 1) := by decide +kernel
theorem dX1_board_9 : decode cX1_board 9 = .ok (.invokevirtual 71, 3) := by decide +kernel
theorem dX1_board_12 : decode cX1_board 12 = .ok (.ifCond .eq 13, 3) := by decide +kernel
theorem dX1_board_15 : decode cX1_board 15 = .ok (.new 42, 3) := by decide +kernel
theorem dX1_board_18 : decode cX1_board 18 = .ok (.dup, 1) := by decide +kernel
theorem dX1_board_19 : decode cX1_board 19 = .ok (.ldc 90, 2) := by decide +kernel
theorem dX1_board_21 : decode cX1_board 21 = .ok (.invokespecial 46, 3) := by decide +kernel
theorem dX1_board_24 : decode cX1_board 24 = .ok (.athrow, 1) := by decide +kernel
theorem dX1_board_25 : decode cX1_board 25 = .ok (.aload_n 3, 1) := by decide +kernel
theorem dX1_board_26 : decode cX1_board 26 = .ok (.iload_n 2, 1) := by decide +kernel
theorem dX1_board_27 : decode cX1_board 27 = .ok (.invokevirtual 68, 3) := by decide +kernel
theorem dX1_board_30 : decode cX1_board 30 = .ok (.ifCond .ne 20, 3) := by decide +kernel
theorem dX1_board_33 : decode cX1_board 33 = .ok (.aload_n 3, 1) := by decide +kernel
theorem dX1_board_34 : decode cX1_board 34 = .ok (.invokevirtual 76, 3) := by decide +kernel
theorem dX1_board_37 : decode cX1_board 37 = .ok (.ifCond .gt 13, 3) := by decide +kernel
theorem dX1_board_40 : decode cX1_board 40 = .ok (.new 42, 3) := by decide +kernel
theorem dX1_board_43 : decode cX1_board 43 = .ok (.dup, 1) := by decide +kernel
theorem dX1_board_44 : decode cX1_board 44 = .ok (.ldc 92, 2) := by decide +kernel
theorem dX1_board_46 : decode cX1_board 46 = .ok (.invokespecial 46, 3) := by decide +kernel
theorem dX1_board_49 : decode cX1_board 49 = .ok (.athrow, 1) := by decide +kernel
theorem dX1_board_50 : decode cX1_board 50 = .ok (.aload_n 3, 1) := by decide +kernel
theorem dX1_board_51 : decode cX1_board 51 = .ok (.iload_n 2, 1) := by decide +kernel
theorem dX1_board_52 : decode cX1_board 52 = .ok (.invokevirtual 94, 3) := by decide +kernel
theorem dX1_board_55 : decode cX1_board 55 = .ok (.ireturn, 1) := by decide +kernel
set_option maxRecDepth 20000 in
theorem ggX1_leave_X1_rideUnderWay : GoodIn wsX1_leave wsX1_rideUnderWay := goodIn_ca (goodIn_ca (goodIn_r _ [7, 8, 9, 10, 6, 11, 12, 13, 14, 15, 16, 17, 18, 19, 20, 21, 22, 23, 24, 25, 26, 27, 28, 29, 30, 31, 32, 33, 34, 35, 36, 37, 38, 39, 40, 41, 42, 43, 44, 1, 2, 45, 46, 47, 48, 49, 50, 68, 69, 70, 71, 72, 73, 74, 75, 76, 77, 78, 79, 80, 81, 82, 83, 84, 85, 86] (by decide +kernel) (by decide +kernel)) (goodIn_sub (fun _ h => List.mem_cons_of_mem _ (List.mem_append_right _ h)) (by decide +kernel))) (goodIn_sub (fun _ h => List.mem_cons_of_mem _ (List.mem_append_left _ (List.mem_append_right _ h))) (by decide +kernel))
set_option maxRecDepth 20000 in
theorem gX1_leave_X1_rideUnderWay : GoodIn wsX1_leave (wsV RX1 64 RX1 yX1_rideUnderWay wsX1_rideUnderWay) := goodIn_app (goodIn_of _ (by decide +kernel)) ggX1_leave_X1_rideUnderWay
set_option maxRecDepth 20000 in
theorem ggX1_leave_X0_hasAboard : GoodIn wsX1_leave wsX0_hasAboard := goodIn_r _ [54, 55, 56, 57, 48, 58, 76, 77, 78, 79, 80, 81, 82, 83, 84, 85, 86] (by decide +kernel) (by decide +kernel)
set_option maxRecDepth 20000 in
theorem gX1_leave_X0_hasAboard : GoodIn wsX1_leave (wsV RX1 71 RX0 yX0_hasAboard wsX0_hasAboard) := goodIn_app (goodIn_of _ (by decide +kernel)) ggX1_leave_X0_hasAboard
set_option maxRecDepth 20000 in
theorem ggX1_leave_X0_letOut : GoodIn wsX1_leave wsX0_letOut := goodIn_r _ [62, 55, 76, 77, 78, 79, 80, 81, 82, 83, 84, 85, 86] (by decide +kernel) (by decide +kernel)
set_option maxRecDepth 20000 in
theorem gX1_leave_X0_letOut : GoodIn wsX1_leave (wsV RX1 99 RX0 yX0_letOut wsX0_letOut) := goodIn_app (goodIn_of _ (by decide +kernel)) ggX1_leave_X0_letOut
set_option maxRecDepth 20000 in
theorem ggX1_leave_X0_chargeOf : GoodIn wsX1_leave wsX0_chargeOf := goodIn_r _ [66, 67, 76, 77, 78, 79, 80, 81, 82, 83, 84, 85, 86] (by decide +kernel) (by decide +kernel)
set_option maxRecDepth 20000 in
theorem gX1_leave_X0_chargeOf : GoodIn wsX1_leave (wsV RX1 102 RX0 yX0_chargeOf wsX0_chargeOf) := goodIn_app (goodIn_of _ (by decide +kernel)) ggX1_leave_X0_chargeOf
theorem dX1_leave_0 : decode cX1_leave 0 = .ok (.aload_n 0, 1) := by decide +kernel
theorem dX1_leave_1 : decode cX1_leave 1 = .ok (.iload_n 1, 1) := by decide +kernel
theorem dX1_leave_2 : decode cX1_leave 2 = .ok (.iload_n 2, 1) := by decide +kernel
theorem dX1_leave_3 : decode cX1_leave 3 = .ok (.invokevirtual 64, 3) := by decide +kernel
theorem dX1_leave_6 : decode cX1_leave 6 = .ok (.astore_n 3, 1) := by decide +kernel
theorem dX1_leave_7 : decode cX1_leave 7 = .ok (.aload_n 3, 1) := by decide +kernel
theorem dX1_leave_8 : decode cX1_leave 8 = .ok (.iload_n 2, 1) := by decide +kernel
theorem dX1_leave_9 : decode cX1_leave 9 = .ok (.invokevirtual 71, 3) := by decide +kernel
theorem dX1_leave_12 : decode cX1_leave 12 = .ok (.ifCond .ne 13, 3) := by decide +kernel
theorem dX1_leave_15 : decode cX1_leave 15 = .ok (.new 42, 3) := by decide +kernel
theorem dX1_leave_18 : decode cX1_leave 18 = .ok (.dup, 1) := by decide +kernel
theorem dX1_leave_19 : decode cX1_leave 19 = .ok (.ldc 97, 2) := by decide +kernel
theorem dX1_leave_21 : decode cX1_leave 21 = .ok (.invokespecial 46, 3) := by decide +kernel
theorem dX1_leave_24 : decode cX1_leave 24 = .ok (.athrow, 1) := by decide +kernel
theorem dX1_leave_25 : decode cX1_leave 25 = .ok (.aload_n 3, 1) := by decide +kernel
theorem dX1_leave_26 : decode cX1_leave 26 = .ok (.iload_n 2, 1) := by decide +kernel
theorem dX1_leave_27 : decode cX1_leave 27 = .ok (.invokevirtual 99, 3) := by decide +kernel
theorem dX1_leave_30 : decode cX1_leave 30 = .ok (.aload_n 3, 1) := by decide +kernel
theorem dX1_leave_31 : decode cX1_leave 31 = .ok (.iload_n 2, 1) := by decide +kernel
theorem dX1_leave_32 : decode cX1_leave 32 = .ok (.invokevirtual 102, 3) := by decide +kernel
theorem dX1_leave_35 : decode cX1_leave 35 = .ok (.ireturn, 1) := by decide +kernel
set_option maxRecDepth 20000 in
theorem ggX1_drive_X1_existingRide : GoodIn wsX1_drive wsX1_existingRide := goodIn_ca (goodIn_r _ [7, 8, 9, 10, 11, 12, 13, 14, 15, 16, 17, 18, 19, 20, 21, 22, 23, 24, 25, 26, 27, 28, 29, 30, 31, 32, 33, 34, 68, 69, 70, 71, 72, 73, 74, 75] (by decide +kernel) (by decide +kernel)) (goodIn_sub (fun _ h => List.mem_cons_of_mem _ (List.mem_append_left _ (List.mem_append_left _ (List.mem_append_right _ h)))) (by decide +kernel))
set_option maxRecDepth 20000 in
theorem gX1_drive_X1_existingRide : GoodIn wsX1_drive (wsV RX1 105 RX1 yX1_existingRide wsX1_existingRide) := goodIn_app (goodIn_of _ (by decide +kernel)) ggX1_drive_X1_existingRide
set_option maxRecDepth 20000 in
theorem ggX1_drive_X1_checkRange : GoodIn wsX1_drive wsX1_checkRange := goodIn_ca (goodIn_r _ [37, 38, 39] (by decide +kernel) (by decide +kernel)) (goodIn_sub (fun _ h => List.mem_cons_of_mem _ (List.mem_append_left _ (List.mem_append_right _ h))) (by decide +kernel))
set_option maxRecDepth 20000 in
theorem gX1_drive_X1_checkRange : GoodIn wsX1_drive (va_wsS RX1 30 yX1_checkRange wsX1_checkRange) := goodIn_app (goodIn_of _ (by decide +kernel)) ggX1_drive_X1_checkRange
set_option maxRecDepth 20000 in
theorem ggX1_drive_X1_checkUnderWay : GoodIn wsX1_drive wsX1_checkUnderWay := goodIn_ca (goodIn_r _ [42, 43, 44, 45, 46, 47, 48, 49, 50, 76, 77, 78, 79, 80, 81, 82, 83, 84, 85, 86] (by decide +kernel) (by decide +kernel)) (goodIn_sub (fun _ h => List.mem_cons_of_mem _ (List.mem_append_right _ h)) (by decide +kernel))
set_option maxRecDepth 20000 in
theorem gX1_drive_X1_checkUnderWay : GoodIn wsX1_drive (va_wsS RX1 109 yX1_checkUnderWay wsX1_checkUnderWay) := goodIn_app (goodIn_of _ (by decide +kernel)) ggX1_drive_X1_checkUnderWay
set_option maxRecDepth 20000 in
theorem ggX1_drive_X0_addStretch : GoodIn wsX1_drive wsX0_addStretch := goodIn_r _ [54, 55, 56, 57, 58, 59, 60, 61, 62, 63, 64, 65, 66, 48, 67, 76, 77, 78, 79, 80, 81, 82, 83, 84, 85, 86] (by decide +kernel) (by decide +kernel)
set_option maxRecDepth 20000 in
theorem gX1_drive_X0_addStretch : GoodIn wsX1_drive (wsV RX1 113 RX0 yX0_addStretch wsX0_addStretch) := goodIn_app (goodIn_of _ (by decide +kernel)) ggX1_drive_X0_addStretch
theorem dX1_drive_0 : decode cX1_drive 0 = .ok (.aload_n 0, 1) := by decide +kernel
theorem dX1_drive_1 : decode cX1_drive 1 = .ok (.iload_n 1, 1) := by decide +kernel
theorem dX1_drive_2 : decode cX1_drive 2 = .ok (.invokevirtual 105, 3) := by decide +kernel
theorem dX1_drive_5 : decode cX1_drive 5 = .ok (.astore 4, 2) := by decide +kernel
theorem dX1_drive_7 : decode cX1_drive 7 = .ok (.iload_n 2, 1) := by decide +kernel
theorem dX1_drive_8 : decode cX1_drive 8 = .ok (.iconst 0, 1) := by decide +kernel
theorem dX1_drive_9 : decode cX1_drive 9 = .ok (.bipush 100, 2) := by decide +kernel
theorem dX1_drive_11 : decode cX1_drive 11 = .ok (.invokestatic 30, 3) := by decide +kernel
theorem dX1_drive_14 : decode cX1_drive 14 = .ok (.iload_n 3, 1) := by decide +kernel
theorem dX1_drive_15 : decode cX1_drive 15 = .ok (.iconst 1, 1) := by decide +kernel
theorem dX1_drive_16 : decode cX1_drive 16 = .ok (.bipush 120, 2) := by decide +kernel
theorem dX1_drive_18 : decode cX1_drive 18 = .ok (.invokestatic 30, 3) := by decide +kernel
theorem dX1_drive_21 : decode cX1_drive 21 = .ok (.aload 4, 2) := by decide +kernel
theorem dX1_drive_23 : decode cX1_drive 23 = .ok (.invokestatic 109, 3) := by decide +kernel
theorem dX1_drive_26 : decode cX1_drive 26 = .ok (.aload 4, 2) := by decide +kernel
theorem dX1_drive_28 : decode cX1_drive 28 = .ok (.iload_n 2, 1) := by decide +kernel
theorem dX1_drive_29 : decode cX1_drive 29 = .ok (.aload_n 0, 1) := by decide +kernel
theorem dX1_drive_30 : decode cX1_drive 30 = .ok (.getfield 20, 3) := by decide +kernel
theorem dX1_drive_33 : decode cX1_drive 33 = .ok (.imul, 1) := by decide +kernel
theorem dX1_drive_34 : decode cX1_drive 34 = .ok (.iload_n 3, 1) := by decide +kernel
theorem dX1_drive_35 : decode cX1_drive 35 = .ok (.aload_n 0, 1) := by decide +kernel
theorem dX1_drive_36 : decode cX1_drive 36 = .ok (.getfield 24, 3) := by decide +kernel
theorem dX1_drive_39 : decode cX1_drive 39 = .ok (.imul, 1) := by decide +kernel
theorem dX1_drive_40 : decode cX1_drive 40 = .ok (.iadd, 1) := by decide +kernel
theorem dX1_drive_41 : decode cX1_drive 41 = .ok (.iload_n 3, 1) := by decide +kernel
theorem dX1_drive_42 : decode cX1_drive 42 = .ok (.invokevirtual 113, 3) := by decide +kernel
theorem dX1_drive_45 : decode cX1_drive 45 = .ok (.ireturn, 1) := by decide +kernel
set_option maxRecDepth 20000 in
theorem ggX1_finish_X1_existingRide : GoodIn wsX1_finish wsX1_existingRide := goodIn_ca (goodIn_r _ [5, 6, 7, 8, 9, 10, 11, 12, 13, 14, 15, 16, 17, 18, 19, 20, 21, 22, 23, 24, 25, 26, 27, 28, 29, 30, 31, 32, 58, 59, 60, 61, 62, 63, 64, 65] (by decide +kernel) (by decide +kernel)) (goodIn_sub (fun _ h => List.mem_cons_of_mem _ (List.mem_append_left _ (List.mem_append_right _ h))) (by decide +kernel))
set_option maxRecDepth 20000 in
theorem gX1_finish_X1_existingRide : GoodIn wsX1_finish (wsV RX1 105 RX1 yX1_existingRide wsX1_existingRide) := goodIn_app (goodIn_of _ (by decide +kernel)) ggX1_finish_X1_existingRide
set_option maxRecDepth 20000 in
theorem ggX1_finish_X1_checkUnderWay : GoodIn wsX1_finish wsX1_checkUnderWay := goodIn_ca (goodIn_r _ [35, 36, 37, 38, 39, 40, 41, 42, 43, 66, 67, 68, 69, 70, 71, 72, 73, 74, 75, 76] (by decide +kernel) (by decide +kernel)) (goodIn_sub (fun _ h => List.mem_cons_of_mem _ (List.mem_append_right _ h)) (by decide +kernel))
set_option maxRecDepth 20000 in
theorem gX1_finish_X1_checkUnderWay : GoodIn wsX1_finish (va_wsS RX1 109 yX1_checkUnderWay wsX1_checkUnderWay) := goodIn_app (goodIn_of _ (by decide +kernel)) ggX1_finish_X1_checkUnderWay
set_option maxRecDepth 20000 in
theorem ggX1_finish_X0_end : GoodIn wsX1_finish wsX0_end := goodIn_r _ [47, 48, 49, 50, 43, 51, 52, 41, 53, 66, 67, 68, 69, 70, 71, 72, 73, 74, 75, 76] (by decide +kernel) (by decide +kernel)
set_option maxRecDepth 20000 in
theorem gX1_finish_X0_end : GoodIn wsX1_finish (wsV RX1 117 RX0 yX0_end wsX0_end) := goodIn_app (goodIn_of _ (by decide +kernel)) ggX1_finish_X0_end
set_option maxRecDepth 20000 in
theorem ggX1_finish_X0_allCharges : GoodIn wsX1_finish wsX0_allCharges := goodIn_r _ [57, 49, 66, 67, 68, 69, 70, 71, 72, 73, 74, 75, 76] (by decide +kernel) (by decide +kernel)
set_option maxRecDepth 20000 in
theorem gX1_finish_X0_allCharges : GoodIn wsX1_finish (wsV RX1 120 RX0 yX0_allCharges wsX0_allCharges) := goodIn_app (goodIn_of _ (by decide +kernel)) ggX1_finish_X0_allCharges
theorem dX1_finish_0 : decode cX1_finish 0 = .ok (.aload_n 0, 1) := by decide +kernel
theorem dX1_finish_1 : decode cX1_finish 1 = .ok (.iload_n 1, 1) := by decide +kernel
theorem dX1_finish_2 : decode cX1_finish 2 = .ok (.invokevirtual 105, 3) := by decide +kernel
theorem dX1_finish_5 : decode cX1_finish 5 = .ok (.astore_n 2, 1) := by decide +kernel
theorem dX1_finish_6 : decode cX1_finish 6 = .ok (.aload_n 2, 1) := by decide +kernel
theorem dX1_finish_7 : decode cX1_finish 7 = .ok (.invokestatic 109, 3) := by decide +kernel
theorem dX1_finish_10 : decode cX1_finish 10 = .ok (.aload_n 2, 1) := by decide +kernel
theorem dX1_finish_11 : decode cX1_finish 11 = .ok (.invokevirtual 117, 3) := by decide +kernel
theorem dX1_finish_14 : decode cX1_finish 14 = .ok (.aload_n 2, 1) := by decide +kernel
theorem dX1_finish_15 : decode cX1_finish 15 = .ok (.invokevirtual 120, 3) := by decide +kernel
theorem dX1_finish_18 : decode cX1_finish 18 = .ok (.ireturn, 1) := by decide +kernel
set_option maxRecDepth 20000 in
theorem ggX1_aboard_X1_existingRide : GoodIn wsX1_aboard wsX1_existingRide := goodIn_ca (goodIn_r _ [5, 6, 7, 8, 9, 10, 11, 12, 13, 14, 15, 16, 17, 18, 19, 20, 21, 22, 23, 24, 25, 26, 27, 28, 29, 30, 31, 32, 39, 40, 41, 42, 43, 44, 45, 46] (by decide +kernel) (by decide +kernel)) (goodIn_sub (fun _ h => List.mem_cons_of_mem _ (List.mem_append_right _ h)) (by decide +kernel))
set_option maxRecDepth 20000 in
theorem gX1_aboard_X1_existingRide : GoodIn wsX1_aboard (wsV RX1 105 RX1 yX1_existingRide wsX1_existingRide) := goodIn_app (goodIn_of _ (by decide +kernel)) ggX1_aboard_X1_existingRide
set_option maxRecDepth 20000 in
theorem ggX1_aboard_X0_ridersAboard : GoodIn wsX1_aboard wsX0_ridersAboard := goodIn_r _ [37, 38, 47, 48, 49, 50, 51, 52, 53, 54, 55, 56, 57] (by decide +kernel) (by decide +kernel)
set_option maxRecDepth 20000 in
theorem gX1_aboard_X0_ridersAboard : GoodIn wsX1_aboard (wsV RX1 123 RX0 yX0_ridersAboard wsX0_ridersAboard) := goodIn_app (goodIn_of _ (by decide +kernel)) ggX1_aboard_X0_ridersAboard
theorem dX1_aboard_0 : decode cX1_aboard 0 = .ok (.aload_n 0, 1) := by decide +kernel
theorem dX1_aboard_1 : decode cX1_aboard 1 = .ok (.iload_n 1, 1) := by decide +kernel
theorem dX1_aboard_2 : decode cX1_aboard 2 = .ok (.invokevirtual 105, 3) := by decide +kernel
theorem dX1_aboard_5 : decode cX1_aboard 5 = .ok (.invokevirtual 123, 3) := by decide +kernel
theorem dX1_aboard_8 : decode cX1_aboard 8 = .ok (.ireturn, 1) := by decide +kernel
set_option maxRecDepth 20000 in
theorem ggX1_charge_X1_existingRide : GoodIn wsX1_charge wsX1_existingRide := goodIn_ca (goodIn_r _ [5, 6, 7, 8, 9, 10, 11, 12, 13, 14, 15, 16, 17, 18, 19, 20, 21, 22, 23, 24, 25, 26, 27, 28, 29, 30, 31, 32, 42, 43, 44, 45, 46, 47, 48, 49] (by decide +kernel) (by decide +kernel)) (goodIn_sub (fun _ h => List.mem_cons_of_mem _ (List.mem_append_right _ h)) (by decide +kernel))
set_option maxRecDepth 20000 in
theorem gX1_charge_X1_existingRide : GoodIn wsX1_charge (wsV RX1 105 RX1 yX1_existingRide wsX1_existingRide) := goodIn_app (goodIn_of _ (by decide +kernel)) ggX1_charge_X1_existingRide
set_option maxRecDepth 20000 in
theorem ggX1_charge_X1_checkRider : GoodIn wsX1_charge wsX1_checkRider := goodIn_ca (goodIn_r _ [35, 6, 7] (by decide +kernel) (by decide +kernel)) (goodIn_sub (fun _ h => List.mem_cons_of_mem _ (List.mem_append_right _ h)) (by decide +kernel))
set_option maxRecDepth 20000 in
theorem gX1_charge_X1_checkRider : GoodIn wsX1_charge (va_wsS RX1 126 yX1_checkRider wsX1_checkRider) := goodIn_app (goodIn_of _ (by decide +kernel)) ggX1_charge_X1_checkRider
set_option maxRecDepth 20000 in
theorem ggX1_charge_X0_chargeOf : GoodIn wsX1_charge wsX0_chargeOf := goodIn_r _ [40, 41, 50, 51, 52, 53, 54, 55, 56, 57, 58, 59, 60] (by decide +kernel) (by decide +kernel)
set_option maxRecDepth 20000 in
theorem gX1_charge_X0_chargeOf : GoodIn wsX1_charge (wsV RX1 102 RX0 yX0_chargeOf wsX0_chargeOf) := goodIn_app (goodIn_of _ (by decide +kernel)) ggX1_charge_X0_chargeOf
theorem dX1_charge_0 : decode cX1_charge 0 = .ok (.aload_n 0, 1) := by decide +kernel
theorem dX1_charge_1 : decode cX1_charge 1 = .ok (.iload_n 1, 1) := by decide +kernel
theorem dX1_charge_2 : decode cX1_charge 2 = .ok (.invokevirtual 105, 3) := by decide +kernel
theorem dX1_charge_5 : decode cX1_charge 5 = .ok (.astore_n 3, 1) := by decide +kernel
theorem dX1_charge_6 : decode cX1_charge 6 = .ok (.iload_n 2, 1) := by decide +kernel
theorem dX1_charge_7 : decode cX1_charge 7 = .ok (.invokestatic 126, 3) := by decide +kernel
theorem dX1_charge_10 : decode cX1_charge 10 = .ok (.aload_n 3, 1) := by decide +kernel
theorem dX1_charge_11 : decode cX1_charge 11 = .ok (.iload_n 2, 1) := by decide +kernel
theorem dX1_charge_12 : decode cX1_charge 12 = .ok (.invokevirtual 102, 3) := by decide +kernel
theorem dX1_charge_15 : decode cX1_charge 15 = .ok (.ireturn, 1) := by decide +kernel
set_option maxRecDepth 20000 in
theorem ggX1_isVoid_X1_existingRide : GoodIn wsX1_isVoid wsX1_existingRide := goodIn_ca (goodIn_r _ [5, 6, 7, 8, 9, 10, 11, 12, 13, 14, 15, 16, 17, 18, 19, 20, 21, 22, 23, 24, 25, 26, 27, 28, 29, 30, 31, 32, 45, 46, 47, 48, 49, 50, 51, 52] (by decide +kernel) (by decide +kernel)) (goodIn_sub (fun _ h => List.mem_cons_of_mem _ (List.mem_append_right _ h)) (by decide +kernel))
set_option maxRecDepth 20000 in
theorem gX1_isVoid_X1_existingRide : GoodIn wsX1_isVoid (wsV RX1 105 RX1 yX1_existingRide wsX1_existingRide) := goodIn_app (goodIn_of _ (by decide +kernel)) ggX1_isVoid_X1_existingRide
set_option maxRecDepth 20000 in
theorem ggX1_isVoid_X0_countsAsVoid : GoodIn wsX1_isVoid wsX0_countsAsVoid := goodIn_r _ [37, 38, 39, 40, 41, 42, 43, 36, 44, 53, 54, 55, 56, 57, 58, 59, 60, 61, 62, 63] (by decide +kernel) (by decide +kernel)
set_option maxRecDepth 20000 in
theorem gX1_isVoid_X0_countsAsVoid : GoodIn wsX1_isVoid (wsV RX1 129 RX0 yX0_countsAsVoid wsX0_countsAsVoid) := goodIn_app (goodIn_of _ (by decide +kernel)) ggX1_isVoid_X0_countsAsVoid
theorem dX1_isVoid_0 : decode cX1_isVoid 0 = .ok (.aload_n 0, 1) := by decide +kernel
theorem dX1_isVoid_1 : decode cX1_isVoid 1 = .ok (.iload_n 1, 1) := by decide +kernel
theorem dX1_isVoid_2 : decode cX1_isVoid 2 = .ok (.invokevirtual 105, 3) := by decide +kernel
theorem dX1_isVoid_5 : decode cX1_isVoid 5 = .ok (.invokevirtual 129, 3) := by decide +kernel
theorem dX1_isVoid_8 : decode cX1_isVoid 8 = .ok (.ireturn, 1) := by decide +kernel
set_option maxRecDepth 20000 in
theorem ggX1_dispute_X1_existingRide : GoodIn wsX1_dispute wsX1_existingRide := goodIn_ca (goodIn_r _ [7, 8, 9, 10, 11, 12, 13, 14, 15, 16, 17, 18, 19, 20, 21, 22, 23, 24, 25, 26, 27, 28, 29, 30, 31, 32, 33, 34, 61, 62, 63, 64, 65, 66, 67, 68] (by decide +kernel) (by decide +kernel)) (goodIn_sub (fun _ h => List.mem_cons_of_mem _ (List.mem_append_right _ h)) (by decide +kernel))
set_option maxRecDepth 20000 in
theorem gX1_dispute_X1_existingRide : GoodIn wsX1_dispute (wsV RX1 105 RX1 yX1_existingRide wsX1_existingRide) := goodIn_app (goodIn_of _ (by decide +kernel)) ggX1_dispute_X1_existingRide
set_option maxRecDepth 20000 in
theorem ggX1_dispute_X1_checkRider : GoodIn wsX1_dispute wsX1_checkRider := goodIn_ca (goodIn_r _ [37, 8, 9] (by decide +kernel) (by decide +kernel)) (goodIn_sub (fun _ h => List.mem_cons_of_mem _ (List.mem_append_right _ h)) (by decide +kernel))
set_option maxRecDepth 20000 in
theorem gX1_dispute_X1_checkRider : GoodIn wsX1_dispute (va_wsS RX1 126 yX1_checkRider wsX1_checkRider) := goodIn_app (goodIn_of _ (by decide +kernel)) ggX1_dispute_X1_checkRider
set_option maxRecDepth 20000 in
theorem ggX1_dispute_X0_isFinished : GoodIn wsX1_dispute wsX0_isFinished := goodIn_r _ [42, 43, 69, 70, 71, 72, 73, 74, 75, 76, 77, 78, 79] (by decide +kernel) (by decide +kernel)
set_option maxRecDepth 20000 in
theorem gX1_dispute_X0_isFinished : GoodIn wsX1_dispute (wsV RX1 133 RX0 yX0_isFinished wsX0_isFinished) := goodIn_app (goodIn_of _ (by decide +kernel)) ggX1_dispute_X0_isFinished
set_option maxRecDepth 20000 in
theorem ggX1_dispute_X0_chargeOf : GoodIn wsX1_dispute wsX0_chargeOf := goodIn_r _ [47, 48, 69, 70, 71, 72, 73, 74, 75, 76, 77, 78, 79] (by decide +kernel) (by decide +kernel)
set_option maxRecDepth 20000 in
theorem gX1_dispute_X0_chargeOf : GoodIn wsX1_dispute (wsV RX1 102 RX0 yX0_chargeOf wsX0_chargeOf) := goodIn_app (goodIn_of _ (by decide +kernel)) ggX1_dispute_X0_chargeOf
set_option maxRecDepth 20000 in
theorem ggX1_dispute_X0_hasDisputed : GoodIn wsX1_dispute wsX0_hasDisputed := goodIn_r _ [52, 53, 54, 55, 41, 56, 69, 70, 71, 72, 73, 74, 75, 76, 77, 78, 79] (by decide +kernel) (by decide +kernel)
set_option maxRecDepth 20000 in
theorem gX1_dispute_X0_hasDisputed : GoodIn wsX1_dispute (wsV RX1 140 RX0 yX0_hasDisputed wsX0_hasDisputed) := goodIn_app (goodIn_of _ (by decide +kernel)) ggX1_dispute_X0_hasDisputed
set_option maxRecDepth 20000 in
theorem ggX1_dispute_X0_addDispute : GoodIn wsX1_dispute wsX0_addDispute := goodIn_r _ [60, 53, 69, 70, 71, 72, 73, 74, 75, 76, 77, 78, 79] (by decide +kernel) (by decide +kernel)
set_option maxRecDepth 20000 in
theorem gX1_dispute_X0_addDispute : GoodIn wsX1_dispute (wsV RX1 145 RX0 yX0_addDispute wsX0_addDispute) := goodIn_app (goodIn_of _ (by decide +kernel)) ggX1_dispute_X0_addDispute
theorem dX1_dispute_0 : decode cX1_dispute 0 = .ok (.aload_n 0, 1) := by decide +kernel
theorem dX1_dispute_1 : decode cX1_dispute 1 = .ok (.iload_n 1, 1) := by decide +kernel
theorem dX1_dispute_2 : decode cX1_dispute 2 = .ok (.invokevirtual 105, 3) := by decide +kernel
theorem dX1_dispute_5 : decode cX1_dispute 5 = .ok (.astore_n 3, 1) := by decide +kernel
theorem dX1_dispute_6 : decode cX1_dispute 6 = .ok (.iload_n 2, 1) := by decide +kernel
theorem dX1_dispute_7 : decode cX1_dispute 7 = .ok (.invokestatic 126, 3) := by decide +kernel
theorem dX1_dispute_10 : decode cX1_dispute 10 = .ok (.aload_n 3, 1) := by decide +kernel
theorem dX1_dispute_11 : decode cX1_dispute 11 = .ok (.invokevirtual 133, 3) := by decide +kernel
theorem dX1_dispute_14 : decode cX1_dispute 14 = .ok (.ifCond .ne 13, 3) := by decide +kernel
theorem dX1_dispute_17 : decode cX1_dispute 17 = .ok (.new 42, 3) := by decide +kernel
theorem dX1_dispute_20 : decode cX1_dispute 20 = .ok (.dup, 1) := by decide +kernel
theorem dX1_dispute_21 : decode cX1_dispute 21 = .ok (.ldc 136, 2) := by decide +kernel
theorem dX1_dispute_23 : decode cX1_dispute 23 = .ok (.invokespecial 46, 3) := by decide +kernel
theorem dX1_dispute_26 : decode cX1_dispute 26 = .ok (.athrow, 1) := by decide +kernel
theorem dX1_dispute_27 : decode cX1_dispute 27 = .ok (.aload_n 3, 1) := by decide +kernel
theorem dX1_dispute_28 : decode cX1_dispute 28 = .ok (.iload_n 2, 1) := by decide +kernel
theorem dX1_dispute_29 : decode cX1_dispute 29 = .ok (.invokevirtual 102, 3) := by decide +kernel
theorem dX1_dispute_32 : decode cX1_dispute 32 = .ok (.ifCond .ne 13, 3) := by decide +kernel
theorem dX1_dispute_35 : decode cX1_dispute 35 = .ok (.new 42, 3) := by decide +kernel
theorem dX1_dispute_38 : decode cX1_dispute 38 = .ok (.dup, 1) := by decide +kernel
theorem dX1_dispute_39 : decode cX1_dispute 39 = .ok (.ldc 138, 2) := by decide +kernel
theorem dX1_dispute_41 : decode cX1_dispute 41 = .ok (.invokespecial 46, 3) := by decide +kernel
theorem dX1_dispute_44 : decode cX1_dispute 44 = .ok (.athrow, 1) := by decide +kernel
theorem dX1_dispute_45 : decode cX1_dispute 45 = .ok (.aload_n 3, 1) := by decide +kernel
theorem dX1_dispute_46 : decode cX1_dispute 46 = .ok (.iload_n 2, 1) := by decide +kernel
theorem dX1_dispute_47 : decode cX1_dispute 47 = .ok (.invokevirtual 140, 3) := by decide +kernel
theorem dX1_dispute_50 : decode cX1_dispute 50 = .ok (.ifCond .eq 13, 3) := by decide +kernel
theorem dX1_dispute_53 : decode cX1_dispute 53 = .ok (.new 42, 3) := by decide +kernel
theorem dX1_dispute_56 : decode cX1_dispute 56 = .ok (.dup, 1) := by decide +kernel
theorem dX1_dispute_57 : decode cX1_dispute 57 = .ok (.ldc 143, 2) := by decide +kernel
theorem dX1_dispute_59 : decode cX1_dispute 59 = .ok (.invokespecial 46, 3) := by decide +kernel
theorem dX1_dispute_62 : decode cX1_dispute 62 = .ok (.athrow, 1) := by decide +kernel
theorem dX1_dispute_63 : decode cX1_dispute 63 = .ok (.aload_n 3, 1) := by decide +kernel
theorem dX1_dispute_64 : decode cX1_dispute 64 = .ok (.iload_n 2, 1) := by decide +kernel
theorem dX1_dispute_65 : decode cX1_dispute 65 = .ok (.invokevirtual 145, 3) := by decide +kernel
theorem dX1_dispute_68 : decode cX1_dispute 68 = .ok (.aload_n 3, 1) := by decide +kernel
theorem dX1_dispute_69 : decode cX1_dispute 69 = .ok (.iload_n 2, 1) := by decide +kernel
theorem dX1_dispute_70 : decode cX1_dispute 70 = .ok (.invokevirtual 102, 3) := by decide +kernel
theorem dX1_dispute_73 : decode cX1_dispute 73 = .ok (.ireturn, 1) := by decide +kernel
set_option maxRecDepth 20000 in
theorem ggX1_settle_X1_existingRide : GoodIn wsX1_settle wsX1_existingRide := goodIn_ca (goodIn_r _ [7, 8, 9, 10, 11, 12, 13, 14, 15, 16, 17, 18, 19, 20, 21, 22, 23, 24, 25, 26, 27, 28, 29, 30, 31, 32, 33, 34, 65, 66, 67, 68, 69, 70, 71, 72] (by decide +kernel) (by decide +kernel)) (goodIn_sub (fun _ h => List.mem_cons_of_mem _ (List.mem_append_left _ (List.mem_append_right _ h))) (by decide +kernel))
set_option maxRecDepth 20000 in
theorem gX1_settle_X1_existingRide : GoodIn wsX1_settle (wsV RX1 105 RX1 yX1_existingRide wsX1_existingRide) := goodIn_app (goodIn_of _ (by decide +kernel)) ggX1_settle_X1_existingRide
set_option maxRecDepth 20000 in
theorem ggX1_settle_X1_checkRider : GoodIn wsX1_settle wsX1_checkRider := goodIn_ca (goodIn_r _ [37, 8, 9] (by decide +kernel) (by decide +kernel)) (goodIn_sub (fun _ h => List.mem_cons_of_mem _ (List.mem_append_left _ (List.mem_append_right _ h))) (by decide +kernel))
set_option maxRecDepth 20000 in
theorem gX1_settle_X1_checkRider : GoodIn wsX1_settle (va_wsS RX1 126 yX1_checkRider wsX1_checkRider) := goodIn_app (goodIn_of _ (by decide +kernel)) ggX1_settle_X1_checkRider
set_option maxRecDepth 20000 in
theorem ggX1_settle_X1_checkRange : GoodIn wsX1_settle wsX1_checkRange := goodIn_ca (goodIn_r _ [40, 41, 42] (by decide +kernel) (by decide +kernel)) (goodIn_sub (fun _ h => List.mem_cons_of_mem _ (List.mem_append_right _ h)) (by decide +kernel))
set_option maxRecDepth 20000 in
theorem gX1_settle_X1_checkRange : GoodIn wsX1_settle (va_wsS RX1 30 yX1_checkRange wsX1_checkRange) := goodIn_app (goodIn_of _ (by decide +kernel)) ggX1_settle_X1_checkRange
set_option maxRecDepth 20000 in
theorem ggX1_settle_X0_hasDisputed : GoodIn wsX1_settle wsX0_hasDisputed := goodIn_r _ [47, 48, 49, 50, 46, 51, 73, 74, 75, 76, 77, 78, 79, 80, 81, 82, 83] (by decide +kernel) (by decide +kernel)
set_option maxRecDepth 20000 in
theorem gX1_settle_X0_hasDisputed : GoodIn wsX1_settle (wsV RX1 140 RX0 yX0_hasDisputed wsX0_hasDisputed) := goodIn_app (goodIn_of _ (by decide +kernel)) ggX1_settle_X0_hasDisputed
set_option maxRecDepth 20000 in
theorem ggX1_settle_X0_hasSettled : GoodIn wsX1_settle wsX0_hasSettled := goodIn_r _ [55, 56, 49, 50, 46, 51, 73, 74, 75, 76, 77, 78, 79, 80, 81, 82, 83] (by decide +kernel) (by decide +kernel)
set_option maxRecDepth 20000 in
theorem gX1_settle_X0_hasSettled : GoodIn wsX1_settle (wsV RX1 150 RX0 yX0_hasSettled wsX0_hasSettled) := goodIn_app (goodIn_of _ (by decide +kernel)) ggX1_settle_X0_hasSettled
set_option maxRecDepth 20000 in
theorem ggX1_settle_X0_refund : GoodIn wsX1_settle wsX0_refund := goodIn_r _ [60, 56, 61, 62, 63, 64, 73, 74, 75, 76, 77, 78, 79, 80, 81, 82, 83] (by decide +kernel) (by decide +kernel)
set_option maxRecDepth 20000 in
theorem gX1_settle_X0_refund : GoodIn wsX1_settle (wsV RX1 155 RX0 yX0_refund wsX0_refund) := goodIn_app (goodIn_of _ (by decide +kernel)) ggX1_settle_X0_refund
theorem dX1_settle_0 : decode cX1_settle 0 = .ok (.aload_n 0, 1) := by decide +kernel
theorem dX1_settle_1 : decode cX1_settle 1 = .ok (.iload_n 1, 1) := by decide +kernel
theorem dX1_settle_2 : decode cX1_settle 2 = .ok (.invokevirtual 105, 3) := by decide +kernel
theorem dX1_settle_5 : decode cX1_settle 5 = .ok (.astore 5, 2) := by decide +kernel
theorem dX1_settle_7 : decode cX1_settle 7 = .ok (.iload_n 2, 1) := by decide +kernel
theorem dX1_settle_8 : decode cX1_settle 8 = .ok (.invokestatic 126, 3) := by decide +kernel
theorem dX1_settle_11 : decode cX1_settle 11 = .ok (.iload_n 3, 1) := by decide +kernel
theorem dX1_settle_12 : decode cX1_settle 12 = .ok (.iconst 0, 1) := by decide +kernel
theorem dX1_settle_13 : decode cX1_settle 13 = .ok (.bipush 100, 2) := by decide +kernel
theorem dX1_settle_15 : decode cX1_settle 15 = .ok (.invokestatic 30, 3) := by decide +kernel
theorem dX1_settle_18 : decode cX1_settle 18 = .ok (.aload 5, 2) := by decide +kernel
theorem dX1_settle_20 : decode cX1_settle 20 = .ok (.iload_n 2, 1) := by decide +kernel
theorem dX1_settle_21 : decode cX1_settle 21 = .ok (.invokevirtual 140, 3) := by decide +kernel
theorem dX1_settle_24 : decode cX1_settle 24 = .ok (.ifCond .ne 13, 3) := by decide +kernel
theorem dX1_settle_27 : decode cX1_settle 27 = .ok (.new 42, 3) := by decide +kernel
theorem dX1_settle_30 : decode cX1_settle 30 = .ok (.dup, 1) := by decide +kernel
theorem dX1_settle_31 : decode cX1_settle 31 = .ok (.ldc 148, 2) := by decide +kernel
theorem dX1_settle_33 : decode cX1_settle 33 = .ok (.invokespecial 46, 3) := by decide +kernel
theorem dX1_settle_36 : decode cX1_settle 36 = .ok (.athrow, 1) := by decide +kernel
theorem dX1_settle_37 : decode cX1_settle 37 = .ok (.aload 5, 2) := by decide +kernel
theorem dX1_settle_39 : decode cX1_settle 39 = .ok (.iload_n 2, 1) := by decide +kernel
theorem dX1_settle_40 : decode cX1_settle 40 = .ok (.invokevirtual 150, 3) := by decide +kernel
theorem dX1_settle_43 : decode cX1_settle 43 = .ok (.ifCond .eq 13, 3) := by decide +kernel
theorem dX1_settle_46 : decode cX1_settle 46 = .ok (.new 42, 3) := by decide +kernel
theorem dX1_settle_49 : decode cX1_settle 49 = .ok (.dup, 1) := by decide +kernel
theorem dX1_settle_50 : decode cX1_settle 50 = .ok (.ldc 153, 2) := by decide +kernel
theorem dX1_settle_52 : decode cX1_settle 52 = .ok (.invokespecial 46, 3) := by decide +kernel
theorem dX1_settle_55 : decode cX1_settle 55 = .ok (.athrow, 1) := by decide +kernel
theorem dX1_settle_56 : decode cX1_settle 56 = .ok (.aload 5, 2) := by decide +kernel
theorem dX1_settle_58 : decode cX1_settle 58 = .ok (.iload_n 2, 1) := by decide +kernel
theorem dX1_settle_59 : decode cX1_settle 59 = .ok (.iload_n 3, 1) := by decide +kernel
theorem dX1_settle_60 : decode cX1_settle 60 = .ok (.iload 4, 2) := by decide +kernel
theorem dX1_settle_62 : decode cX1_settle 62 = .ok (.invokevirtual 155, 3) := by decide +kernel
theorem dX1_settle_65 : decode cX1_settle 65 = .ok (.ireturn, 1) := by decide +kernel
set_option maxRecDepth 20000 in
theorem ggX1_openDisputes_Jx4a65c_size_8abf5 : GoodIn wsX1_openDisputes wsJx4a65c_size_8abf5 := goodIn_r _ [7, 8, 45, 46, 47] (by decide +kernel) (by decide +kernel)
set_option maxRecDepth 20000 in
theorem gX1_openDisputes_Jx4a65c_size_8abf5 : GoodIn wsX1_openDisputes (wsV RX1 38 RJx4a65c yJx4a65c_size_8abf5 wsJx4a65c_size_8abf5) := goodIn_app (goodIn_of _ (by decide +kernel)) ggX1_openDisputes_Jx4a65c_size_8abf5
set_option maxRecDepth 20000 in
theorem ggX1_openDisputes_Jx4a65c_get_915e3 : GoodIn wsX1_openDisputes wsJx4a65c_get_915e3 := goodIn_r _ [12, 8, 13, 14, 15, 16, 17, 18, 19, 20, 21, 22, 23, 6, 24, 25, 45, 46, 47] (by decide +kernel) (by decide +kernel)
set_option maxRecDepth 20000 in
theorem gX1_openDisputes_Jx4a65c_get_915e3 : GoodIn wsX1_openDisputes (wsV RX1 159 RJx4a65c yJx4a65c_get_915e3 wsJx4a65c_get_915e3) := goodIn_app (goodIn_of _ (by decide +kernel)) ggX1_openDisputes_Jx4a65c_get_915e3
set_option maxRecDepth 20000 in
theorem ggX1_openDisputes_X0_unsettledDisputes : GoodIn wsX1_openDisputes wsX0_unsettledDisputes := goodIn_r _ [30, 31, 32, 33, 34, 35, 36, 37, 38, 39, 48, 49, 50, 51, 52, 53, 54, 55, 56, 57, 58] (by decide +kernel) (by decide +kernel)
set_option maxRecDepth 20000 in
theorem gX1_openDisputes_X0_unsettledDisputes : GoodIn wsX1_openDisputes (wsV RX1 163 RX0 yX0_unsettledDisputes wsX0_unsettledDisputes) := goodIn_app (goodIn_of _ (by decide +kernel)) ggX1_openDisputes_X0_unsettledDisputes
theorem dX1_openDisputes_0 : decode cX1_openDisputes 0 = .ok (.iconst 0, 1) := by decide +kernel
theorem dX1_openDisputes_1 : decode cX1_openDisputes 1 = .ok (.istore_n 1, 1) := by decide +kernel
theorem dX1_openDisputes_2 : decode cX1_openDisputes 2 = .ok (.iconst 0, 1) := by decide +kernel
theorem dX1_openDisputes_3 : decode cX1_openDisputes 3 = .ok (.istore_n 2, 1) := by decide +kernel
theorem dX1_openDisputes_4 : decode cX1_openDisputes 4 = .ok (.iload_n 2, 1) := by decide +kernel
theorem dX1_openDisputes_5 : decode cX1_openDisputes 5 = .ok (.aload_n 0, 1) := by decide +kernel
theorem dX1_openDisputes_6 : decode cX1_openDisputes 6 = .ok (.getfield 10, 3) := by decide +kernel
theorem dX1_openDisputes_9 : decode cX1_openDisputes 9 = .ok (.invokevirtual 38, 3) := by decide +kernel
theorem dX1_openDisputes_12 : decode cX1_openDisputes 12 = .ok (.if_icmp .ge 26, 3) := by decide +kernel
theorem dX1_openDisputes_15 : decode cX1_openDisputes 15 = .ok (.iload_n 1, 1) := by decide +kernel
theorem dX1_openDisputes_16 : decode cX1_openDisputes 16 = .ok (.aload_n 0, 1) := by decide +kernel
theorem dX1_openDisputes_17 : decode cX1_openDisputes 17 = .ok (.getfield 10, 3) := by decide +kernel
theorem dX1_openDisputes_20 : decode cX1_openDisputes 20 = .ok (.iload_n 2, 1) := by decide +kernel
theorem dX1_openDisputes_21 : decode cX1_openDisputes 21 = .ok (.invokevirtual 159, 3) := by decide +kernel
theorem dX1_openDisputes_24 : decode cX1_openDisputes 24 = .ok (.checkcast 55, 3) := by decide +kernel
theorem dX1_openDisputes_27 : decode cX1_openDisputes 27 = .ok (.invokevirtual 163, 3) := by decide +kernel
theorem dX1_openDisputes_30 : decode cX1_openDisputes 30 = .ok (.iadd, 1) := by decide +kernel
theorem dX1_openDisputes_31 : decode cX1_openDisputes 31 = .ok (.istore_n 1, 1) := by decide +kernel
theorem dX1_openDisputes_32 : decode cX1_openDisputes 32 = .ok (.iinc 2 1, 3) := by decide +kernel
theorem dX1_openDisputes_35 : decode cX1_openDisputes 35 = .ok (.goto (-31), 3) := by decide +kernel
theorem dX1_openDisputes_38 : decode cX1_openDisputes 38 = .ok (.iload_n 1, 1) := by decide +kernel
theorem dX1_openDisputes_39 : decode cX1_openDisputes 39 = .ok (.ireturn, 1) := by decide +kernel
set_option maxRecDepth 20000 in
theorem ggX1_closeWeek_X1_isAnyUnderWay : GoodIn wsX1_closeWeek wsX1_isAnyUnderWay := goodIn_r _ [9, 10, 11, 12, 13, 14, 15, 16, 17, 18, 19, 20, 21, 22, 23, 24, 25, 26, 27, 28, 29, 30, 31, 32, 33, 34, 35, 36, 37, 38, 39, 40, 105, 106, 107, 108, 109, 110, 111, 112, 113, 114, 115, 116, 117, 118, 119, 120, 121, 122, 123] (by decide +kernel) (by decide +kernel)
set_option maxRecDepth 20000 in
theorem gX1_closeWeek_X1_isAnyUnderWay : GoodIn wsX1_closeWeek (wsV RX1 168 RX1 yX1_isAnyUnderWay wsX1_isAnyUnderWay) := goodIn_app (goodIn_of _ (by decide +kernel)) ggX1_closeWeek_X1_isAnyUnderWay
set_option maxRecDepth 20000 in
theorem ggX1_closeWeek_X1_dueTo : GoodIn wsX1_closeWeek wsX1_dueTo := goodIn_r _ [44, 3, 4, 45, 46, 47, 8, 48, 49, 50, 51, 52, 53, 54, 55, 56, 10, 11, 12, 13, 14, 15, 16, 17, 18, 19, 20, 21, 22, 23, 24, 25, 26, 27, 28, 29, 30, 31, 32, 33, 34, 57, 58, 59, 38, 60, 40, 61, 62, 63, 64, 65, 66, 67, 68, 69, 70, 71, 72, 73, 74, 75, 76, 77, 78, 79, 80, 81, 82, 83, 84, 85, 86, 87, 88, 89, 90, 91, 92, 93, 94, 95, 96, 97, 98, 99, 100, 101, 102, 103, 104, 105, 106, 107, 108, 109, 110, 111, 112, 113, 114, 115, 116, 117, 118, 119, 120, 121, 122, 123] (by decide +kernel) (by decide +kernel)
set_option maxRecDepth 20000 in
theorem gX1_closeWeek_X1_dueTo : GoodIn wsX1_closeWeek (wsV RX1 173 RX1 yX1_dueTo wsX1_dueTo) := goodIn_app (goodIn_of _ (by decide +kernel)) ggX1_closeWeek_X1_dueTo
theorem dX1_closeWeek_0 : decode cX1_closeWeek 0 = .ok (.aload_n 0, 1) := by decide +kernel
theorem dX1_closeWeek_1 : decode cX1_closeWeek 1 = .ok (.getfield 27, 3) := by decide +kernel
theorem dX1_closeWeek_4 : decode cX1_closeWeek 4 = .ok (.bipush 20, 2) := by decide +kernel
theorem dX1_closeWeek_6 : decode cX1_closeWeek 6 = .ok (.if_icmp .lt 13, 3) := by decide +kernel
theorem dX1_closeWeek_9 : decode cX1_closeWeek 9 = .ok (.new 42, 3) := by decide +kernel
theorem dX1_closeWeek_12 : decode cX1_closeWeek 12 = .ok (.dup, 1) := by decide +kernel
theorem dX1_closeWeek_13 : decode cX1_closeWeek 13 = .ok (.ldc 166, 2) := by decide +kernel
theorem dX1_closeWeek_15 : decode cX1_closeWeek 15 = .ok (.invokespecial 46, 3) := by decide +kernel
theorem dX1_closeWeek_18 : decode cX1_closeWeek 18 = .ok (.athrow, 1) := by decide +kernel
theorem dX1_closeWeek_19 : decode cX1_closeWeek 19 = .ok (.aload_n 0, 1) := by decide +kernel
theorem dX1_closeWeek_20 : decode cX1_closeWeek 20 = .ok (.invokevirtual 168, 3) := by decide +kernel
theorem dX1_closeWeek_23 : decode cX1_closeWeek 23 = .ok (.ifCond .eq 13, 3) := by decide +kernel
theorem dX1_closeWeek_26 : decode cX1_closeWeek 26 = .ok (.new 42, 3) := by decide +kernel
theorem dX1_closeWeek_29 : decode cX1_closeWeek 29 = .ok (.dup, 1) := by decide +kernel
theorem dX1_closeWeek_30 : decode cX1_closeWeek 30 = .ok (.ldc 171, 2) := by decide +kernel
theorem dX1_closeWeek_32 : decode cX1_closeWeek 32 = .ok (.invokespecial 46, 3) := by decide +kernel
theorem dX1_closeWeek_35 : decode cX1_closeWeek 35 = .ok (.athrow, 1) := by decide +kernel
theorem dX1_closeWeek_36 : decode cX1_closeWeek 36 = .ok (.aload_n 0, 1) := by decide +kernel
theorem dX1_closeWeek_37 : decode cX1_closeWeek 37 = .ok (.dup, 1) := by decide +kernel
theorem dX1_closeWeek_38 : decode cX1_closeWeek 38 = .ok (.getfield 27, 3) := by decide +kernel
theorem dX1_closeWeek_41 : decode cX1_closeWeek 41 = .ok (.iconst 1, 1) := by decide +kernel
theorem dX1_closeWeek_42 : decode cX1_closeWeek 42 = .ok (.iadd, 1) := by decide +kernel
theorem dX1_closeWeek_43 : decode cX1_closeWeek 43 = .ok (.putfield 27, 3) := by decide +kernel
theorem dX1_closeWeek_46 : decode cX1_closeWeek 46 = .ok (.iconst 0, 1) := by decide +kernel
theorem dX1_closeWeek_47 : decode cX1_closeWeek 47 = .ok (.istore_n 1, 1) := by decide +kernel
theorem dX1_closeWeek_48 : decode cX1_closeWeek 48 = .ok (.iconst 0, 1) := by decide +kernel
theorem dX1_closeWeek_49 : decode cX1_closeWeek 49 = .ok (.istore_n 2, 1) := by decide +kernel
theorem dX1_closeWeek_50 : decode cX1_closeWeek 50 = .ok (.iload_n 2, 1) := by decide +kernel
theorem dX1_closeWeek_51 : decode cX1_closeWeek 51 = .ok (.iconst 5, 1) := by decide +kernel
theorem dX1_closeWeek_52 : decode cX1_closeWeek 52 = .ok (.if_icmp .ge 33, 3) := by decide +kernel
theorem dX1_closeWeek_55 : decode cX1_closeWeek 55 = .ok (.aload_n 0, 1) := by decide +kernel
theorem dX1_closeWeek_56 : decode cX1_closeWeek 56 = .ok (.iload_n 2, 1) := by decide +kernel
theorem dX1_closeWeek_57 : decode cX1_closeWeek 57 = .ok (.invokevirtual 173, 3) := by decide +kernel
theorem dX1_closeWeek_60 : decode cX1_closeWeek 60 = .ok (.istore_n 3, 1) := by decide +kernel
theorem dX1_closeWeek_61 : decode cX1_closeWeek 61 = .ok (.iload_n 3, 1) := by decide +kernel
theorem dX1_closeWeek_62 : decode cX1_closeWeek 62 = .ok (.ifCond .le 17, 3) := by decide +kernel
theorem dX1_closeWeek_65 : decode cX1_closeWeek 65 = .ok (.aload_n 0, 1) := by decide +kernel
theorem dX1_closeWeek_66 : decode cX1_closeWeek 66 = .ok (.getfield 16, 3) := by decide +kernel
theorem dX1_closeWeek_69 : decode cX1_closeWeek 69 = .ok (.iload_n 2, 1) := by decide +kernel
theorem dX1_closeWeek_70 : decode cX1_closeWeek 70 = .ok (.dup2, 1) := by decide +kernel
theorem dX1_closeWeek_71 : decode cX1_closeWeek 71 = .ok (.iaload, 1) := by decide +kernel
theorem dX1_closeWeek_72 : decode cX1_closeWeek 72 = .ok (.iload_n 3, 1) := by decide +kernel
theorem dX1_closeWeek_73 : decode cX1_closeWeek 73 = .ok (.iadd, 1) := by decide +kernel
theorem dX1_closeWeek_74 : decode cX1_closeWeek 74 = .ok (.iastore, 1) := by decide +kernel
theorem dX1_closeWeek_75 : decode cX1_closeWeek 75 = .ok (.iload_n 1, 1) := by decide +kernel
theorem dX1_closeWeek_76 : decode cX1_closeWeek 76 = .ok (.iload_n 3, 1) := by decide +kernel
theorem dX1_closeWeek_77 : decode cX1_closeWeek 77 = .ok (.iadd, 1) := by decide +kernel
theorem dX1_closeWeek_78 : decode cX1_closeWeek 78 = .ok (.istore_n 1, 1) := by decide +kernel
theorem dX1_closeWeek_79 : decode cX1_closeWeek 79 = .ok (.iinc 2 1, 3) := by decide +kernel
theorem dX1_closeWeek_82 : decode cX1_closeWeek 82 = .ok (.goto (-32), 3) := by decide +kernel
theorem dX1_closeWeek_85 : decode cX1_closeWeek 85 = .ok (.iload_n 1, 1) := by decide +kernel
theorem dX1_closeWeek_86 : decode cX1_closeWeek 86 = .ok (.ireturn, 1) := by decide +kernel
theorem dX1_week_0 : decode cX1_week 0 = .ok (.aload_n 0, 1) := by decide +kernel
theorem dX1_week_1 : decode cX1_week 1 = .ok (.getfield 27, 3) := by decide +kernel
theorem dX1_week_4 : decode cX1_week 4 = .ok (.ireturn, 1) := by decide +kernel
set_option maxRecDepth 20000 in
theorem ggX1_earnings_X1_checkDriver : GoodIn wsX1_earnings wsX1_checkDriver := goodIn_ca (goodIn_r _ [5, 6, 7] (by decide +kernel) (by decide +kernel)) (goodIn_sub (fun _ h => List.mem_cons_of_mem _ (List.mem_append_left _ (List.mem_append_right _ h))) (by decide +kernel))
set_option maxRecDepth 20000 in
theorem gX1_earnings_X1_checkDriver : GoodIn wsX1_earnings (va_wsS RX1 34 yX1_checkDriver wsX1_checkDriver) := goodIn_app (goodIn_of _ (by decide +kernel)) ggX1_earnings_X1_checkDriver
set_option maxRecDepth 20000 in
theorem ggX1_earnings_X1_checkRange : GoodIn wsX1_earnings wsX1_checkRange := goodIn_ca (goodIn_r _ [10, 11, 12] (by decide +kernel) (by decide +kernel)) (goodIn_sub (fun _ h => List.mem_cons_of_mem _ (List.mem_append_right _ h)) (by decide +kernel))
set_option maxRecDepth 20000 in
theorem gX1_earnings_X1_checkRange : GoodIn wsX1_earnings (va_wsS RX1 30 yX1_checkRange wsX1_checkRange) := goodIn_app (goodIn_of _ (by decide +kernel)) ggX1_earnings_X1_checkRange
set_option maxRecDepth 20000 in
theorem ggX1_earnings_X1_earningsFor : GoodIn wsX1_earnings wsX1_earningsFor := goodIn_r _ [16, 17, 18, 19, 20, 21, 22, 23, 24, 25, 26, 27, 28, 29, 30, 31, 32, 33, 34, 35, 36, 37, 38, 39, 40, 41, 42, 43, 44, 45, 46, 47, 48, 49, 50, 51, 52, 53, 54, 55, 56, 57, 58, 59, 60, 61, 62, 63, 64, 65, 66, 67, 68, 69, 70, 71, 72, 73, 74, 75, 76, 77, 78, 79, 80, 81, 82] (by decide +kernel) (by decide +kernel)
set_option maxRecDepth 20000 in
theorem gX1_earnings_X1_earningsFor : GoodIn wsX1_earnings (wsV RX1 176 RX1 yX1_earningsFor wsX1_earningsFor) := goodIn_app (goodIn_of _ (by decide +kernel)) ggX1_earnings_X1_earningsFor
theorem dX1_earnings_0 : decode cX1_earnings 0 = .ok (.iload_n 1, 1) := by decide +kernel
theorem dX1_earnings_1 : decode cX1_earnings 1 = .ok (.invokestatic 34, 3) := by decide +kernel
theorem dX1_earnings_4 : decode cX1_earnings 4 = .ok (.iload_n 2, 1) := by decide +kernel
theorem dX1_earnings_5 : decode cX1_earnings 5 = .ok (.iconst 0, 1) := by decide +kernel
theorem dX1_earnings_6 : decode cX1_earnings 6 = .ok (.aload_n 0, 1) := by decide +kernel
theorem dX1_earnings_7 : decode cX1_earnings 7 = .ok (.getfield 27, 3) := by decide +kernel
theorem dX1_earnings_10 : decode cX1_earnings 10 = .ok (.invokestatic 30, 3) := by decide +kernel
theorem dX1_earnings_13 : decode cX1_earnings 13 = .ok (.aload_n 0, 1) := by decide +kernel
theorem dX1_earnings_14 : decode cX1_earnings 14 = .ok (.iload_n 1, 1) := by decide +kernel
theorem dX1_earnings_15 : decode cX1_earnings 15 = .ok (.iload_n 2, 1) := by decide +kernel
theorem dX1_earnings_16 : decode cX1_earnings 16 = .ok (.invokevirtual 176, 3) := by decide +kernel
theorem dX1_earnings_19 : decode cX1_earnings 19 = .ok (.ireturn, 1) := by decide +kernel
set_option maxRecDepth 20000 in
theorem ggX1_topUp_X1_checkDriver : GoodIn wsX1_topUp wsX1_checkDriver := goodIn_ca (goodIn_r _ [5, 6, 7] (by decide +kernel) (by decide +kernel)) (goodIn_sub (fun _ h => List.mem_cons_of_mem _ (List.mem_append_left _ (List.mem_append_right _ h))) (by decide +kernel))
set_option maxRecDepth 20000 in
theorem gX1_topUp_X1_checkDriver : GoodIn wsX1_topUp (va_wsS RX1 34 yX1_checkDriver wsX1_checkDriver) := goodIn_app (goodIn_of _ (by decide +kernel)) ggX1_topUp_X1_checkDriver
set_option maxRecDepth 20000 in
theorem ggX1_topUp_X1_checkRange : GoodIn wsX1_topUp wsX1_checkRange := goodIn_ca (goodIn_r _ [10, 11, 12] (by decide +kernel) (by decide +kernel)) (goodIn_sub (fun _ h => List.mem_cons_of_mem _ (List.mem_append_right _ h)) (by decide +kernel))
set_option maxRecDepth 20000 in
theorem gX1_topUp_X1_checkRange : GoodIn wsX1_topUp (va_wsS RX1 30 yX1_checkRange wsX1_checkRange) := goodIn_app (goodIn_of _ (by decide +kernel)) ggX1_topUp_X1_checkRange
set_option maxRecDepth 20000 in
theorem ggX1_topUp_X1_earningsFor : GoodIn wsX1_topUp wsX1_earningsFor := goodIn_r _ [16, 17, 18, 19, 20, 21, 22, 23, 24, 25, 26, 27, 28, 29, 30, 31, 32, 33, 34, 35, 36, 37, 38, 39, 40, 41, 42, 43, 44, 45, 46, 47, 48, 49, 50, 51, 52, 53, 54, 55, 56, 57, 58, 59, 60, 61, 62, 63, 85, 86, 87, 88, 89, 90, 91, 92, 93, 94, 95, 96, 97, 98, 99, 100, 101, 102, 103] (by decide +kernel) (by decide +kernel)
set_option maxRecDepth 20000 in
theorem gX1_topUp_X1_earningsFor : GoodIn wsX1_topUp (wsV RX1 176 RX1 yX1_earningsFor wsX1_earningsFor) := goodIn_app (goodIn_of _ (by decide +kernel)) ggX1_topUp_X1_earningsFor
set_option maxRecDepth 20000 in
theorem ggX1_topUp_X1_topUpOn : GoodIn wsX1_topUp wsX1_topUpOn := goodIn_r _ [67, 68, 69, 70, 71, 72, 73, 74, 4, 75, 17, 18, 19, 20, 21, 22, 23, 24, 25, 26, 27, 28, 29, 30, 31, 32, 33, 34, 35, 36, 37, 38, 39, 40, 41, 42, 43, 44, 45, 46, 47, 48, 49, 76, 77, 78, 79, 58, 59, 60, 61, 62, 63, 80, 81, 82, 83, 84, 85, 86, 87, 88, 89, 90, 91, 92, 93, 94, 95, 96, 97, 98, 99, 100, 101, 102, 103] (by decide +kernel) (by decide +kernel)
set_option maxRecDepth 20000 in
theorem gX1_topUp_X1_topUpOn : GoodIn wsX1_topUp (wsV RX1 179 RX1 yX1_topUpOn wsX1_topUpOn) := goodIn_app (goodIn_of _ (by decide +kernel)) ggX1_topUp_X1_topUpOn
theorem dX1_topUp_0 : decode cX1_topUp 0 = .ok (.iload_n 1, 1) := by decide +kernel
theorem dX1_topUp_1 : decode cX1_topUp 1 = .ok (.invokestatic 34, 3) := by decide +kernel
theorem dX1_topUp_4 : decode cX1_topUp 4 = .ok (.iload_n 2, 1) := by decide +kernel
theorem dX1_topUp_5 : decode cX1_topUp 5 = .ok (.iconst 0, 1) := by decide +kernel
theorem dX1_topUp_6 : decode cX1_topUp 6 = .ok (.aload_n 0, 1) := by decide +kernel
theorem dX1_topUp_7 : decode cX1_topUp 7 = .ok (.getfield 27, 3) := by decide +kernel
theorem dX1_topUp_10 : decode cX1_topUp 10 = .ok (.invokestatic 30, 3) := by decide +kernel
theorem dX1_topUp_13 : decode cX1_topUp 13 = .ok (.aload_n 0, 1) := by decide +kernel
theorem dX1_topUp_14 : decode cX1_topUp 14 = .ok (.aload_n 0, 1) := by decide +kernel
theorem dX1_topUp_15 : decode cX1_topUp 15 = .ok (.iload_n 1, 1) := by decide +kernel
theorem dX1_topUp_16 : decode cX1_topUp 16 = .ok (.iload_n 2, 1) := by decide +kernel
theorem dX1_topUp_17 : decode cX1_topUp 17 = .ok (.invokevirtual 176, 3) := by decide +kernel
theorem dX1_topUp_20 : decode cX1_topUp 20 = .ok (.iload_n 1, 1) := by decide +kernel
theorem dX1_topUp_21 : decode cX1_topUp 21 = .ok (.iload_n 2, 1) := by decide +kernel
theorem dX1_topUp_22 : decode cX1_topUp 22 = .ok (.invokevirtual 179, 3) := by decide +kernel
theorem dX1_topUp_25 : decode cX1_topUp 25 = .ok (.ireturn, 1) := by decide +kernel
set_option maxRecDepth 20000 in
theorem ggX1_bonus_X1_checkDriver : GoodIn wsX1_bonus wsX1_checkDriver := goodIn_ca (goodIn_r _ [5, 6, 7] (by decide +kernel) (by decide +kernel)) (goodIn_sub (fun _ h => List.mem_cons_of_mem _ (List.mem_append_left _ (List.mem_append_right _ h))) (by decide +kernel))
set_option maxRecDepth 20000 in
theorem gX1_bonus_X1_checkDriver : GoodIn wsX1_bonus (va_wsS RX1 34 yX1_checkDriver wsX1_checkDriver) := goodIn_app (goodIn_of _ (by decide +kernel)) ggX1_bonus_X1_checkDriver
set_option maxRecDepth 20000 in
theorem ggX1_bonus_X1_checkRange : GoodIn wsX1_bonus wsX1_checkRange := goodIn_ca (goodIn_r _ [10, 11, 12] (by decide +kernel) (by decide +kernel)) (goodIn_sub (fun _ h => List.mem_cons_of_mem _ (List.mem_append_right _ h)) (by decide +kernel))
set_option maxRecDepth 20000 in
theorem gX1_bonus_X1_checkRange : GoodIn wsX1_bonus (va_wsS RX1 30 yX1_checkRange wsX1_checkRange) := goodIn_app (goodIn_of _ (by decide +kernel)) ggX1_bonus_X1_checkRange
set_option maxRecDepth 20000 in
theorem ggX1_bonus_X1_bonusFor : GoodIn wsX1_bonus wsX1_bonusFor := goodIn_r _ [16, 17, 18, 19, 20, 21, 22, 23, 24, 25, 26, 27, 28, 29, 30, 31, 32, 33, 34, 35, 36, 37, 38, 39, 40, 41, 42, 43, 44, 45, 46, 47, 48, 49, 50, 51, 52, 53, 54, 55, 56, 57, 58, 59, 60, 61, 4, 62, 63, 64, 65, 66, 67, 68, 69, 70, 71, 72, 73, 74, 75, 76, 77, 78, 79, 80, 81] (by decide +kernel) (by decide +kernel)
set_option maxRecDepth 20000 in
theorem gX1_bonus_X1_bonusFor : GoodIn wsX1_bonus (wsV RX1 183 RX1 yX1_bonusFor wsX1_bonusFor) := goodIn_app (goodIn_of _ (by decide +kernel)) ggX1_bonus_X1_bonusFor
theorem dX1_bonus_0 : decode cX1_bonus 0 = .ok (.iload_n 1, 1) := by decide +kernel
theorem dX1_bonus_1 : decode cX1_bonus 1 = .ok (.invokestatic 34, 3) := by decide +kernel
theorem dX1_bonus_4 : decode cX1_bonus 4 = .ok (.iload_n 2, 1) := by decide +kernel
theorem dX1_bonus_5 : decode cX1_bonus 5 = .ok (.iconst 0, 1) := by decide +kernel
theorem dX1_bonus_6 : decode cX1_bonus 6 = .ok (.aload_n 0, 1) := by decide +kernel
theorem dX1_bonus_7 : decode cX1_bonus 7 = .ok (.getfield 27, 3) := by decide +kernel
theorem dX1_bonus_10 : decode cX1_bonus 10 = .ok (.invokestatic 30, 3) := by decide +kernel
theorem dX1_bonus_13 : decode cX1_bonus 13 = .ok (.aload_n 0, 1) := by decide +kernel
theorem dX1_bonus_14 : decode cX1_bonus 14 = .ok (.iload_n 1, 1) := by decide +kernel
theorem dX1_bonus_15 : decode cX1_bonus 15 = .ok (.iload_n 2, 1) := by decide +kernel
theorem dX1_bonus_16 : decode cX1_bonus 16 = .ok (.invokevirtual 183, 3) := by decide +kernel
theorem dX1_bonus_19 : decode cX1_bonus 19 = .ok (.ireturn, 1) := by decide +kernel
set_option maxRecDepth 20000 in
theorem ggX1_pay_X1_checkDriver : GoodIn wsX1_pay wsX1_checkDriver := goodIn_ca (goodIn_r _ [5, 6, 7] (by decide +kernel) (by decide +kernel)) (goodIn_sub (fun _ h => List.mem_cons_of_mem _ (List.mem_append_left _ (List.mem_append_right _ h))) (by decide +kernel))
set_option maxRecDepth 20000 in
theorem gX1_pay_X1_checkDriver : GoodIn wsX1_pay (va_wsS RX1 34 yX1_checkDriver wsX1_checkDriver) := goodIn_app (goodIn_of _ (by decide +kernel)) ggX1_pay_X1_checkDriver
set_option maxRecDepth 20000 in
theorem ggX1_pay_X1_checkRange : GoodIn wsX1_pay wsX1_checkRange := goodIn_ca (goodIn_r _ [10, 11, 12] (by decide +kernel) (by decide +kernel)) (goodIn_sub (fun _ h => List.mem_cons_of_mem _ (List.mem_append_right _ h)) (by decide +kernel))
set_option maxRecDepth 20000 in
theorem gX1_pay_X1_checkRange : GoodIn wsX1_pay (va_wsS RX1 30 yX1_checkRange wsX1_checkRange) := goodIn_app (goodIn_of _ (by decide +kernel)) ggX1_pay_X1_checkRange
set_option maxRecDepth 20000 in
theorem ggX1_pay_X1_payFor : GoodIn wsX1_pay wsX1_payFor := goodIn_r _ [16, 17, 18, 19, 4, 20, 21, 22, 23, 24, 25, 26, 27, 28, 29, 30, 31, 32, 33, 34, 35, 36, 37, 38, 39, 40, 41, 42, 43, 44, 45, 46, 47, 48, 49, 50, 51, 52, 53, 54, 55, 56, 57, 58, 59, 60, 61, 62, 63, 64, 65, 66, 67, 68, 69, 70, 71, 72, 73, 74, 75, 76, 77, 78, 79, 80, 81, 82, 83, 84, 85, 86, 87, 88, 89, 90, 91, 92, 93, 94, 95, 96, 97, 98, 99, 100, 101, 102, 103, 104, 105, 106, 107, 108, 109, 110, 111, 112, 113, 114] (by decide +kernel) (by decide +kernel)
set_option maxRecDepth 20000 in
theorem gX1_pay_X1_payFor : GoodIn wsX1_pay (wsV RX1 186 RX1 yX1_payFor wsX1_payFor) := goodIn_app (goodIn_of _ (by decide +kernel)) ggX1_pay_X1_payFor
theorem dX1_pay_0 : decode cX1_pay 0 = .ok (.iload_n 1, 1) := by decide +kernel
theorem dX1_pay_1 : decode cX1_pay 1 = .ok (.invokestatic 34, 3) := by decide +kernel
theorem dX1_pay_4 : decode cX1_pay 4 = .ok (.iload_n 2, 1) := by decide +kernel
theorem dX1_pay_5 : decode cX1_pay 5 = .ok (.iconst 0, 1) := by decide +kernel
theorem dX1_pay_6 : decode cX1_pay 6 = .ok (.aload_n 0, 1) := by decide +kernel
theorem dX1_pay_7 : decode cX1_pay 7 = .ok (.getfield 27, 3) := by decide +kernel
theorem dX1_pay_10 : decode cX1_pay 10 = .ok (.invokestatic 30, 3) := by decide +kernel
theorem dX1_pay_13 : decode cX1_pay 13 = .ok (.aload_n 0, 1) := by decide +kernel
theorem dX1_pay_14 : decode cX1_pay 14 = .ok (.iload_n 1, 1) := by decide +kernel
theorem dX1_pay_15 : decode cX1_pay 15 = .ok (.iload_n 2, 1) := by decide +kernel
theorem dX1_pay_16 : decode cX1_pay 16 = .ok (.invokevirtual 186, 3) := by decide +kernel
theorem dX1_pay_19 : decode cX1_pay 19 = .ok (.ireturn, 1) := by decide +kernel
set_option maxRecDepth 20000 in
theorem ggX1_balance_X1_checkDriver : GoodIn wsX1_balance wsX1_checkDriver := goodIn_ca (goodIn_r _ [4, 5, 6] (by decide +kernel) (by decide +kernel)) (goodIn_sub (fun _ h => List.mem_cons_of_mem _ (List.mem_append_right _ h)) (by decide +kernel))
set_option maxRecDepth 20000 in
theorem gX1_balance_X1_checkDriver : GoodIn wsX1_balance (va_wsS RX1 34 yX1_checkDriver wsX1_checkDriver) := goodIn_app (goodIn_of _ (by decide +kernel)) ggX1_balance_X1_checkDriver
set_option maxRecDepth 20000 in
theorem ggX1_balance_X1_dueTo : GoodIn wsX1_balance wsX1_dueTo := goodIn_r _ [10, 11, 12, 13, 14, 15, 3, 16, 17, 18, 19, 20, 21, 22, 23, 24, 25, 26, 27, 28, 29, 30, 31, 32, 33, 34, 35, 36, 37, 38, 39, 40, 41, 42, 43, 44, 45, 46, 47, 48, 49, 50, 51, 52, 53, 54, 55, 56, 57, 58, 59, 60, 61, 62, 63, 64, 65, 66, 67, 68, 69, 70, 71, 72, 73, 74, 75, 76, 77, 78, 79, 80, 81, 82, 83, 84, 85, 86, 87, 88, 89, 90, 91, 92, 93, 94, 95, 96, 97, 98, 99, 100, 101, 102, 103, 104, 105, 106, 107, 108, 109, 110, 111, 112, 113, 114, 115, 116, 117, 118] (by decide +kernel) (by decide +kernel)
set_option maxRecDepth 20000 in
theorem gX1_balance_X1_dueTo : GoodIn wsX1_balance (wsV RX1 173 RX1 yX1_dueTo wsX1_dueTo) := goodIn_app (goodIn_of _ (by decide +kernel)) ggX1_balance_X1_dueTo
theorem dX1_balance_0 : decode cX1_balance 0 = .ok (.iload_n 1, 1) := by decide +kernel
theorem dX1_balance_1 : decode cX1_balance 1 = .ok (.invokestatic 34, 3) := by decide +kernel
theorem dX1_balance_4 : decode cX1_balance 4 = .ok (.aload_n 0, 1) := by decide +kernel
theorem dX1_balance_5 : decode cX1_balance 5 = .ok (.iload_n 1, 1) := by decide +kernel
theorem dX1_balance_6 : decode cX1_balance 6 = .ok (.invokevirtual 173, 3) := by decide +kernel
theorem dX1_balance_9 : decode cX1_balance 9 = .ok (.ireturn, 1) := by decide +kernel
set_option maxRecDepth 20000 in
theorem ggX1_paid_X1_checkDriver : GoodIn wsX1_paid wsX1_checkDriver := goodIn_ca (goodIn_r _ [5, 6, 7] (by decide +kernel) (by decide +kernel)) (goodIn_sub (fun _ h => List.mem_cons_of_mem _ (List.mem_append_right _ h)) (by decide +kernel))
set_option maxRecDepth 20000 in
theorem gX1_paid_X1_checkDriver : GoodIn wsX1_paid (va_wsS RX1 34 yX1_checkDriver wsX1_checkDriver) := goodIn_app (goodIn_of _ (by decide +kernel)) ggX1_paid_X1_checkDriver
theorem dX1_paid_0 : decode cX1_paid 0 = .ok (.iload_n 1, 1) := by decide +kernel
theorem dX1_paid_1 : decode cX1_paid 1 = .ok (.invokestatic 34, 3) := by decide +kernel
theorem dX1_paid_4 : decode cX1_paid 4 = .ok (.aload_n 0, 1) := by decide +kernel
theorem dX1_paid_5 : decode cX1_paid 5 = .ok (.getfield 16, 3) := by decide +kernel
theorem dX1_paid_8 : decode cX1_paid 8 = .ok (.iload_n 1, 1) := by decide +kernel
theorem dX1_paid_9 : decode cX1_paid 9 = .ok (.iaload, 1) := by decide +kernel
theorem dX1_paid_10 : decode cX1_paid 10 = .ok (.ireturn, 1) := by decide +kernel
set_option maxRecDepth 20000 in
theorem ggX1_spent_X1_checkRider : GoodIn wsX1_spent wsX1_checkRider := goodIn_ca (goodIn_r _ [6, 7, 8] (by decide +kernel) (by decide +kernel)) (goodIn_sub (fun _ h => List.mem_cons_of_mem _ (List.mem_append_right _ h)) (by decide +kernel))
set_option maxRecDepth 20000 in
theorem gX1_spent_X1_checkRider : GoodIn wsX1_spent (va_wsS RX1 126 yX1_checkRider wsX1_checkRider) := goodIn_app (goodIn_of _ (by decide +kernel)) ggX1_spent_X1_checkRider
set_option maxRecDepth 20000 in
theorem ggX1_spent_Jx4a65c_size_8abf5 : GoodIn wsX1_spent wsJx4a65c_size_8abf5 := goodIn_r _ [13, 14, 53, 54, 55] (by decide +kernel) (by decide +kernel)
set_option maxRecDepth 20000 in
theorem gX1_spent_Jx4a65c_size_8abf5 : GoodIn wsX1_spent (wsV RX1 38 RJx4a65c yJx4a65c_size_8abf5 wsJx4a65c_size_8abf5) := goodIn_app (goodIn_of _ (by decide +kernel)) ggX1_spent_Jx4a65c_size_8abf5
set_option maxRecDepth 20000 in
theorem ggX1_spent_Jx4a65c_get_915e3 : GoodIn wsX1_spent wsJx4a65c_get_915e3 := goodIn_r _ [18, 14, 19, 20, 21, 22, 23, 24, 25, 26, 27, 28, 29, 12, 30, 31, 53, 54, 55] (by decide +kernel) (by decide +kernel)
set_option maxRecDepth 20000 in
theorem gX1_spent_Jx4a65c_get_915e3 : GoodIn wsX1_spent (wsV RX1 159 RJx4a65c yJx4a65c_get_915e3 wsJx4a65c_get_915e3) := goodIn_app (goodIn_of _ (by decide +kernel)) ggX1_spent_Jx4a65c_get_915e3
set_option maxRecDepth 20000 in
theorem ggX1_spent_X0_isFinished : GoodIn wsX1_spent wsX0_isFinished := goodIn_r _ [36, 37, 56, 57, 58, 59, 60, 61, 62, 63, 64, 65, 66] (by decide +kernel) (by decide +kernel)
set_option maxRecDepth 20000 in
theorem gX1_spent_X0_isFinished : GoodIn wsX1_spent (wsV RX1 133 RX0 yX0_isFinished wsX0_isFinished) := goodIn_app (goodIn_of _ (by decide +kernel)) ggX1_spent_X0_isFinished
set_option maxRecDepth 20000 in
theorem ggX1_spent_X0_chargeOf : GoodIn wsX1_spent wsX0_chargeOf := goodIn_r _ [41, 42, 56, 57, 58, 59, 60, 61, 62, 63, 64, 65, 66] (by decide +kernel) (by decide +kernel)
set_option maxRecDepth 20000 in
theorem gX1_spent_X0_chargeOf : GoodIn wsX1_spent (wsV RX1 102 RX0 yX0_chargeOf wsX0_chargeOf) := goodIn_app (goodIn_of _ (by decide +kernel)) ggX1_spent_X0_chargeOf
set_option maxRecDepth 20000 in
theorem ggX1_spent_X0_refundOf : GoodIn wsX1_spent wsX0_refundOf := goodIn_r _ [46, 47, 56, 57, 58, 59, 60, 61, 62, 63, 64, 65, 66] (by decide +kernel) (by decide +kernel)
set_option maxRecDepth 20000 in
theorem gX1_spent_X0_refundOf : GoodIn wsX1_spent (wsV RX1 189 RX0 yX0_refundOf wsX0_refundOf) := goodIn_app (goodIn_of _ (by decide +kernel)) ggX1_spent_X0_refundOf
theorem dX1_spent_0 : decode cX1_spent 0 = .ok (.iload_n 1, 1) := by decide +kernel
theorem dX1_spent_1 : decode cX1_spent 1 = .ok (.invokestatic 126, 3) := by decide +kernel
theorem dX1_spent_4 : decode cX1_spent 4 = .ok (.iconst 0, 1) := by decide +kernel
theorem dX1_spent_5 : decode cX1_spent 5 = .ok (.istore_n 2, 1) := by decide +kernel
theorem dX1_spent_6 : decode cX1_spent 6 = .ok (.iconst 0, 1) := by decide +kernel
theorem dX1_spent_7 : decode cX1_spent 7 = .ok (.istore_n 3, 1) := by decide +kernel
theorem dX1_spent_8 : decode cX1_spent 8 = .ok (.iload_n 3, 1) := by decide +kernel
theorem dX1_spent_9 : decode cX1_spent 9 = .ok (.aload_n 0, 1) := by decide +kernel
theorem dX1_spent_10 : decode cX1_spent 10 = .ok (.getfield 10, 3) := by decide +kernel
theorem dX1_spent_13 : decode cX1_spent 13 = .ok (.invokevirtual 38, 3) := by decide +kernel
theorem dX1_spent_16 : decode cX1_spent 16 = .ok (.if_icmp .ge 46, 3) := by decide +kernel
theorem dX1_spent_19 : decode cX1_spent 19 = .ok (.aload_n 0, 1) := by decide +kernel
theorem dX1_spent_20 : decode cX1_spent 20 = .ok (.getfield 10, 3) := by decide +kernel
theorem dX1_spent_23 : decode cX1_spent 23 = .ok (.iload_n 3, 1) := by decide +kernel
theorem dX1_spent_24 : decode cX1_spent 24 = .ok (.invokevirtual 159, 3) := by decide +kernel
theorem dX1_spent_27 : decode cX1_spent 27 = .ok (.checkcast 55, 3) := by decide +kernel
theorem dX1_spent_30 : decode cX1_spent 30 = .ok (.astore 4, 2) := by decide +kernel
theorem dX1_spent_32 : decode cX1_spent 32 = .ok (.aload 4, 2) := by decide +kernel
theorem dX1_spent_34 : decode cX1_spent 34 = .ok (.invokevirtual 133, 3) := by decide +kernel
theorem dX1_spent_37 : decode cX1_spent 37 = .ok (.ifCond .eq 19, 3) := by decide +kernel
theorem dX1_spent_40 : decode cX1_spent 40 = .ok (.iload_n 2, 1) := by decide +kernel
theorem dX1_spent_41 : decode cX1_spent 41 = .ok (.aload 4, 2) := by decide +kernel
theorem dX1_spent_43 : decode cX1_spent 43 = .ok (.iload_n 1, 1) := by decide +kernel
theorem dX1_spent_44 : decode cX1_spent 44 = .ok (.invokevirtual 102, 3) := by decide +kernel
theorem dX1_spent_47 : decode cX1_spent 47 = .ok (.aload 4, 2) := by decide +kernel
theorem dX1_spent_49 : decode cX1_spent 49 = .ok (.iload_n 1, 1) := by decide +kernel
theorem dX1_spent_50 : decode cX1_spent 50 = .ok (.invokevirtual 189, 3) := by decide +kernel
theorem dX1_spent_53 : decode cX1_spent 53 = .ok (.isub, 1) := by decide +kernel
theorem dX1_spent_54 : decode cX1_spent 54 = .ok (.iadd, 1) := by decide +kernel
theorem dX1_spent_55 : decode cX1_spent 55 = .ok (.istore_n 2, 1) := by decide +kernel
theorem dX1_spent_56 : decode cX1_spent 56 = .ok (.iinc 3 1, 3) := by decide +kernel
theorem dX1_spent_59 : decode cX1_spent 59 = .ok (.goto (-51), 3) := by decide +kernel
theorem dX1_spent_62 : decode cX1_spent 62 = .ok (.iload_n 2, 1) := by decide +kernel
theorem dX1_spent_63 : decode cX1_spent 63 = .ok (.ireturn, 1) := by decide +kernel
set_option maxRecDepth 20000 in
theorem ggX1_house_Jx4a65c_size_8abf5 : GoodIn wsX1_house wsJx4a65c_size_8abf5 := goodIn_r _ [8, 9, 107, 108, 109] (by decide +kernel) (by decide +kernel)
set_option maxRecDepth 20000 in
theorem gX1_house_Jx4a65c_size_8abf5 : GoodIn wsX1_house (wsV RX1 38 RJx4a65c yJx4a65c_size_8abf5 wsJx4a65c_size_8abf5) := goodIn_app (goodIn_of _ (by decide +kernel)) ggX1_house_Jx4a65c_size_8abf5
set_option maxRecDepth 20000 in
theorem ggX1_house_Jx4a65c_get_915e3 : GoodIn wsX1_house wsJx4a65c_get_915e3 := goodIn_r _ [13, 9, 14, 15, 16, 17, 18, 19, 20, 21, 22, 23, 24, 7, 25, 26, 107, 108, 109] (by decide +kernel) (by decide +kernel)
set_option maxRecDepth 20000 in
theorem gX1_house_Jx4a65c_get_915e3 : GoodIn wsX1_house (wsV RX1 159 RJx4a65c yJx4a65c_get_915e3 wsJx4a65c_get_915e3) := goodIn_app (goodIn_of _ (by decide +kernel)) ggX1_house_Jx4a65c_get_915e3
set_option maxRecDepth 20000 in
theorem ggX1_house_X0_isFinished : GoodIn wsX1_house wsX0_isFinished := goodIn_r _ [31, 32, 110, 111, 112, 113, 114, 115, 116, 117, 118, 119, 120] (by decide +kernel) (by decide +kernel)
set_option maxRecDepth 20000 in
theorem gX1_house_X0_isFinished : GoodIn wsX1_house (wsV RX1 133 RX0 yX0_isFinished wsX0_isFinished) := goodIn_app (goodIn_of _ (by decide +kernel)) ggX1_house_X0_isFinished
set_option maxRecDepth 20000 in
theorem ggX1_house_X0_allCharges : GoodIn wsX1_house wsX0_allCharges := goodIn_r _ [36, 37, 110, 111, 112, 113, 114, 115, 116, 117, 118, 119, 120] (by decide +kernel) (by decide +kernel)
set_option maxRecDepth 20000 in
theorem gX1_house_X0_allCharges : GoodIn wsX1_house (wsV RX1 120 RX0 yX0_allCharges wsX0_allCharges) := goodIn_app (goodIn_of _ (by decide +kernel)) ggX1_house_X0_allCharges
set_option maxRecDepth 20000 in
theorem ggX1_house_X0_allRefunds : GoodIn wsX1_house wsX0_allRefunds := goodIn_r _ [41, 42, 110, 111, 112, 113, 114, 115, 116, 117, 118, 119, 120] (by decide +kernel) (by decide +kernel)
set_option maxRecDepth 20000 in
theorem gX1_house_X0_allRefunds : GoodIn wsX1_house (wsV RX1 192 RX0 yX0_allRefunds wsX0_allRefunds) := goodIn_app (goodIn_of _ (by decide +kernel)) ggX1_house_X0_allRefunds
set_option maxRecDepth 20000 in
theorem ggX1_house_X1_payBefore : GoodIn wsX1_house wsX1_payBefore := goodIn_r _ [47, 48, 49, 50, 46, 51, 52, 53, 54, 55, 1, 2, 4, 5, 6, 7, 8, 9, 10, 11, 12, 13, 14, 15, 16, 17, 18, 19, 20, 21, 22, 23, 24, 25, 26, 56, 57, 58, 30, 59, 32, 60, 61, 62, 63, 64, 65, 66, 67, 68, 69, 37, 70, 42, 71, 72, 73, 74, 75, 76, 77, 78, 79, 80, 81, 82, 83, 84, 85, 86, 87, 88, 89, 90, 91, 92, 93, 94, 95, 96, 97, 98, 99, 100, 101, 102, 103, 104, 105, 106, 107, 108, 109, 110, 111, 112, 113, 114, 115, 116, 117, 118, 119, 120] (by decide +kernel) (by decide +kernel)
set_option maxRecDepth 20000 in
theorem gX1_house_X1_payBefore : GoodIn wsX1_house (wsV RX1 195 RX1 yX1_payBefore wsX1_payBefore) := goodIn_app (goodIn_of _ (by decide +kernel)) ggX1_house_X1_payBefore
theorem dX1_house_0 : decode cX1_house 0 = .ok (.iconst 0, 1) := by decide +kernel
theorem dX1_house_1 : decode cX1_house 1 = .ok (.istore_n 1, 1) := by decide +kernel
theorem dX1_house_2 : decode cX1_house 2 = .ok (.iconst 0, 1) := by decide +kernel
theorem dX1_house_3 : decode cX1_house 3 = .ok (.istore_n 2, 1) := by decide +kernel
theorem dX1_house_4 : decode cX1_house 4 = .ok (.iload_n 2, 1) := by decide +kernel
theorem dX1_house_5 : decode cX1_house 5 = .ok (.aload_n 0, 1) := by decide +kernel
theorem dX1_house_6 : decode cX1_house 6 = .ok (.getfield 10, 3) := by decide +kernel
theorem dX1_house_9 : decode cX1_house 9 = .ok (.invokevirtual 38, 3) := by decide +kernel
theorem dX1_house_12 : decode cX1_house 12 = .ok (.if_icmp .ge 40, 3) := by decide +kernel
theorem dX1_house_15 : decode cX1_house 15 = .ok (.aload_n 0, 1) := by decide +kernel
theorem dX1_house_16 : decode cX1_house 16 = .ok (.getfield 10, 3) := by decide +kernel
theorem dX1_house_19 : decode cX1_house 19 = .ok (.iload_n 2, 1) := by decide +kernel
theorem dX1_house_20 : decode cX1_house 20 = .ok (.invokevirtual 159, 3) := by decide +kernel
theorem dX1_house_23 : decode cX1_house 23 = .ok (.checkcast 55, 3) := by decide +kernel
theorem dX1_house_26 : decode cX1_house 26 = .ok (.astore_n 3, 1) := by decide +kernel
theorem dX1_house_27 : decode cX1_house 27 = .ok (.aload_n 3, 1) := by decide +kernel
theorem dX1_house_28 : decode cX1_house 28 = .ok (.invokevirtual 133, 3) := by decide +kernel
theorem dX1_house_31 : decode cX1_house 31 = .ok (.ifCond .eq 15, 3) := by decide +kernel
theorem dX1_house_34 : decode cX1_house 34 = .ok (.iload_n 1, 1) := by decide +kernel
theorem dX1_house_35 : decode cX1_house 35 = .ok (.aload_n 3, 1) := by decide +kernel
theorem dX1_house_36 : decode cX1_house 36 = .ok (.invokevirtual 120, 3) := by decide +kernel
theorem dX1_house_39 : decode cX1_house 39 = .ok (.aload_n 3, 1) := by decide +kernel
theorem dX1_house_40 : decode cX1_house 40 = .ok (.invokevirtual 192, 3) := by decide +kernel
theorem dX1_house_43 : decode cX1_house 43 = .ok (.isub, 1) := by decide +kernel
theorem dX1_house_44 : decode cX1_house 44 = .ok (.iadd, 1) := by decide +kernel
theorem dX1_house_45 : decode cX1_house 45 = .ok (.istore_n 1, 1) := by decide +kernel
theorem dX1_house_46 : decode cX1_house 46 = .ok (.iinc 2 1, 3) := by decide +kernel
theorem dX1_house_49 : decode cX1_house 49 = .ok (.goto (-45), 3) := by decide +kernel
theorem dX1_house_52 : decode cX1_house 52 = .ok (.iconst 0, 1) := by decide +kernel
theorem dX1_house_53 : decode cX1_house 53 = .ok (.istore_n 2, 1) := by decide +kernel
theorem dX1_house_54 : decode cX1_house 54 = .ok (.iload_n 2, 1) := by decide +kernel
theorem dX1_house_55 : decode cX1_house 55 = .ok (.iconst 5, 1) := by decide +kernel
theorem dX1_house_56 : decode cX1_house 56 = .ok (.if_icmp .ge 23, 3) := by decide +kernel
theorem dX1_house_59 : decode cX1_house 59 = .ok (.iload_n 1, 1) := by decide +kernel
theorem dX1_house_60 : decode cX1_house 60 = .ok (.aload_n 0, 1) := by decide +kernel
theorem dX1_house_61 : decode cX1_house 61 = .ok (.iload_n 2, 1) := by decide +kernel
theorem dX1_house_62 : decode cX1_house 62 = .ok (.aload_n 0, 1) := by decide +kernel
theorem dX1_house_63 : decode cX1_house 63 = .ok (.getfield 27, 3) := by decide +kernel
theorem dX1_house_66 : decode cX1_house 66 = .ok (.iconst 1, 1) := by decide +kernel
theorem dX1_house_67 : decode cX1_house 67 = .ok (.iadd, 1) := by decide +kernel
theorem dX1_house_68 : decode cX1_house 68 = .ok (.invokevirtual 195, 3) := by decide +kernel
theorem dX1_house_71 : decode cX1_house 71 = .ok (.isub, 1) := by decide +kernel
theorem dX1_house_72 : decode cX1_house 72 = .ok (.istore_n 1, 1) := by decide +kernel
theorem dX1_house_73 : decode cX1_house 73 = .ok (.iinc 2 1, 3) := by decide +kernel
theorem dX1_house_76 : decode cX1_house 76 = .ok (.goto (-22), 3) := by decide +kernel
theorem dX1_house_79 : decode cX1_house 79 = .ok (.iload_n 1, 1) := by decide +kernel
theorem dX1_house_80 : decode cX1_house 80 = .ok (.ireturn, 1) := by decide +kernel
set_option maxRecDepth 20000 in
theorem ggX1_averageCharge_X1_checkRider : GoodIn wsX1_averageCharge wsX1_checkRider := goodIn_ca (goodIn_r _ [8, 9, 10] (by decide +kernel) (by decide +kernel)) (goodIn_sub (fun _ h => List.mem_cons_of_mem _ (List.mem_append_right _ h)) (by decide +kernel))
set_option maxRecDepth 20000 in
theorem gX1_averageCharge_X1_checkRider : GoodIn wsX1_averageCharge (va_wsS RX1 126 yX1_checkRider wsX1_checkRider) := goodIn_app (goodIn_of _ (by decide +kernel)) ggX1_averageCharge_X1_checkRider
set_option maxRecDepth 20000 in
theorem ggX1_averageCharge_Jx4a65c_size_8abf5 : GoodIn wsX1_averageCharge wsJx4a65c_size_8abf5 := goodIn_r _ [15, 16, 50, 51, 52] (by decide +kernel) (by decide +kernel)
set_option maxRecDepth 20000 in
theorem gX1_averageCharge_Jx4a65c_size_8abf5 : GoodIn wsX1_averageCharge (wsV RX1 38 RJx4a65c yJx4a65c_size_8abf5 wsJx4a65c_size_8abf5) := goodIn_app (goodIn_of _ (by decide +kernel)) ggX1_averageCharge_Jx4a65c_size_8abf5
set_option maxRecDepth 20000 in
theorem ggX1_averageCharge_Jx4a65c_get_915e3 : GoodIn wsX1_averageCharge wsJx4a65c_get_915e3 := goodIn_r _ [20, 16, 21, 22, 23, 24, 25, 26, 27, 28, 29, 30, 31, 14, 32, 33, 50, 51, 52] (by decide +kernel) (by decide +kernel)
set_option maxRecDepth 20000 in
theorem gX1_averageCharge_Jx4a65c_get_915e3 : GoodIn wsX1_averageCharge (wsV RX1 159 RJx4a65c yJx4a65c_get_915e3 wsJx4a65c_get_915e3) := goodIn_app (goodIn_of _ (by decide +kernel)) ggX1_averageCharge_Jx4a65c_get_915e3
set_option maxRecDepth 20000 in
theorem ggX1_averageCharge_X0_isFinished : GoodIn wsX1_averageCharge wsX0_isFinished := goodIn_r _ [38, 39, 53, 54, 55, 56, 57, 58, 59, 60, 61, 62, 63] (by decide +kernel) (by decide +kernel)
set_option maxRecDepth 20000 in
theorem gX1_averageCharge_X0_isFinished : GoodIn wsX1_averageCharge (wsV RX1 133 RX0 yX0_isFinished wsX0_isFinished) := goodIn_app (goodIn_of _ (by decide +kernel)) ggX1_averageCharge_X0_isFinished
set_option maxRecDepth 20000 in
theorem ggX1_averageCharge_X0_chargeOf : GoodIn wsX1_averageCharge wsX0_chargeOf := goodIn_r _ [43, 44, 53, 54, 55, 56, 57, 58, 59, 60, 61, 62, 63] (by decide +kernel) (by decide +kernel)
set_option maxRecDepth 20000 in
theorem gX1_averageCharge_X0_chargeOf : GoodIn wsX1_averageCharge (wsV RX1 102 RX0 yX0_chargeOf wsX0_chargeOf) := goodIn_app (goodIn_of _ (by decide +kernel)) ggX1_averageCharge_X0_chargeOf
theorem dX1_averageCharge_0 : decode cX1_averageCharge 0 = .ok (.iload_n 1, 1) := by decide +kernel
theorem dX1_averageCharge_1 : decode cX1_averageCharge 1 = .ok (.invokestatic 126, 3) := by decide +kernel
theorem dX1_averageCharge_4 : decode cX1_averageCharge 4 = .ok (.iconst 0, 1) := by decide +kernel
theorem dX1_averageCharge_5 : decode cX1_averageCharge 5 = .ok (.istore_n 2, 1) := by decide +kernel
theorem dX1_averageCharge_6 : decode cX1_averageCharge 6 = .ok (.iconst 0, 1) := by decide +kernel
theorem dX1_averageCharge_7 : decode cX1_averageCharge 7 = .ok (.istore_n 3, 1) := by decide +kernel
theorem dX1_averageCharge_8 : decode cX1_averageCharge 8 = .ok (.iconst 0, 1) := by decide +kernel
theorem dX1_averageCharge_9 : decode cX1_averageCharge 9 = .ok (.istore 4, 2) := by decide +kernel
theorem dX1_averageCharge_11 : decode cX1_averageCharge 11 = .ok (.iload 4, 2) := by decide +kernel
theorem dX1_averageCharge_13 : decode cX1_averageCharge 13 = .ok (.aload_n 0, 1) := by decide +kernel
theorem dX1_averageCharge_14 : decode cX1_averageCharge 14 = .ok (.getfield 10, 3) := by decide +kernel
theorem dX1_averageCharge_17 : decode cX1_averageCharge 17 = .ok (.invokevirtual 38, 3) := by decide +kernel
theorem dX1_averageCharge_20 : decode cX1_averageCharge 20 = .ok (.if_icmp .ge 52, 3) := by decide +kernel
theorem dX1_averageCharge_23 : decode cX1_averageCharge 23 = .ok (.aload_n 0, 1) := by decide +kernel
theorem dX1_averageCharge_24 : decode cX1_averageCharge 24 = .ok (.getfield 10, 3) := by decide +kernel
theorem dX1_averageCharge_27 : decode cX1_averageCharge 27 = .ok (.iload 4, 2) := by decide +kernel
theorem dX1_averageCharge_29 : decode cX1_averageCharge 29 = .ok (.invokevirtual 159, 3) := by decide +kernel
theorem dX1_averageCharge_32 : decode cX1_averageCharge 32 = .ok (.checkcast 55, 3) := by decide +kernel
theorem dX1_averageCharge_35 : decode cX1_averageCharge 35 = .ok (.astore 5, 2) := by decide +kernel
theorem dX1_averageCharge_37 : decode cX1_averageCharge 37 = .ok (.aload 5, 2) := by decide +kernel
theorem dX1_averageCharge_39 : decode cX1_averageCharge 39 = .ok (.invokevirtual 133, 3) := by decide +kernel
theorem dX1_averageCharge_42 : decode cX1_averageCharge 42 = .ok (.ifCond .eq 24, 3) := by decide +kernel
theorem dX1_averageCharge_45 : decode cX1_averageCharge 45 = .ok (.aload 5, 2) := by decide +kernel
theorem dX1_averageCharge_47 : decode cX1_averageCharge 47 = .ok (.iload_n 1, 1) := by decide +kernel
theorem dX1_averageCharge_48 : decode cX1_averageCharge 48 = .ok (.invokevirtual 102, 3) := by decide +kernel
theorem dX1_averageCharge_51 : decode cX1_averageCharge 51 = .ok (.ifCond .le 15, 3) := by decide +kernel
theorem dX1_averageCharge_54 : decode cX1_averageCharge 54 = .ok (.iload_n 2, 1) := by decide +kernel
theorem dX1_averageCharge_55 : decode cX1_averageCharge 55 = .ok (.aload 5, 2) := by decide +kernel
theorem dX1_averageCharge_57 : decode cX1_averageCharge 57 = .ok (.iload_n 1, 1) := by decide +kernel
theorem dX1_averageCharge_58 : decode cX1_averageCharge 58 = .ok (.invokevirtual 102, 3) := by decide +kernel
theorem dX1_averageCharge_61 : decode cX1_averageCharge 61 = .ok (.iadd, 1) := by decide +kernel
theorem dX1_averageCharge_62 : decode cX1_averageCharge 62 = .ok (.istore_n 2, 1) := by decide +kernel
theorem dX1_averageCharge_63 : decode cX1_averageCharge 63 = .ok (.iinc 3 1, 3) := by decide +kernel
theorem dX1_averageCharge_66 : decode cX1_averageCharge 66 = .ok (.iinc 4 1, 3) := by decide +kernel
theorem dX1_averageCharge_69 : decode cX1_averageCharge 69 = .ok (.goto (-58), 3) := by decide +kernel
theorem dX1_averageCharge_72 : decode cX1_averageCharge 72 = .ok (.iload_n 3, 1) := by decide +kernel
theorem dX1_averageCharge_73 : decode cX1_averageCharge 73 = .ok (.ifCond .ne 13, 3) := by decide +kernel
theorem dX1_averageCharge_76 : decode cX1_averageCharge 76 = .ok (.new 42, 3) := by decide +kernel
theorem dX1_averageCharge_79 : decode cX1_averageCharge 79 = .ok (.dup, 1) := by decide +kernel
theorem dX1_averageCharge_80 : decode cX1_averageCharge 80 = .ok (.ldc 198, 2) := by decide +kernel
theorem dX1_averageCharge_82 : decode cX1_averageCharge 82 = .ok (.invokespecial 46, 3) := by decide +kernel
theorem dX1_averageCharge_85 : decode cX1_averageCharge 85 = .ok (.athrow, 1) := by decide +kernel
theorem dX1_averageCharge_86 : decode cX1_averageCharge 86 = .ok (.iload_n 2, 1) := by decide +kernel
theorem dX1_averageCharge_87 : decode cX1_averageCharge 87 = .ok (.i2f, 1) := by decide +kernel
theorem dX1_averageCharge_88 : decode cX1_averageCharge 88 = .ok (.iload_n 3, 1) := by decide +kernel
theorem dX1_averageCharge_89 : decode cX1_averageCharge 89 = .ok (.i2f, 1) := by decide +kernel
theorem dX1_averageCharge_90 : decode cX1_averageCharge 90 = .ok (.fdiv, 1) := by decide +kernel
theorem dX1_averageCharge_91 : decode cX1_averageCharge 91 = .ok (.freturn, 1) := by decide +kernel
set_option maxRecDepth 20000 in
theorem ggX1_earningsFor_Jx4a65c_size_8abf5 : GoodIn wsX1_earningsFor wsJx4a65c_size_8abf5 := goodIn_r _ [7, 8, 53, 54, 55] (by decide +kernel) (by decide +kernel)
set_option maxRecDepth 20000 in
theorem gX1_earningsFor_Jx4a65c_size_8abf5 : GoodIn wsX1_earningsFor (wsV RX1 38 RJx4a65c yJx4a65c_size_8abf5 wsJx4a65c_size_8abf5) := goodIn_app (goodIn_of _ (by decide +kernel)) ggX1_earningsFor_Jx4a65c_size_8abf5
set_option maxRecDepth 20000 in
theorem ggX1_earningsFor_Jx4a65c_get_915e3 : GoodIn wsX1_earningsFor wsJx4a65c_get_915e3 := goodIn_r _ [12, 8, 13, 14, 15, 16, 17, 18, 19, 20, 21, 22, 23, 6, 24, 25, 53, 54, 55] (by decide +kernel) (by decide +kernel)
set_option maxRecDepth 20000 in
theorem gX1_earningsFor_Jx4a65c_get_915e3 : GoodIn wsX1_earningsFor (wsV RX1 159 RJx4a65c yJx4a65c_get_915e3 wsJx4a65c_get_915e3) := goodIn_app (goodIn_of _ (by decide +kernel)) ggX1_earningsFor_Jx4a65c_get_915e3
set_option maxRecDepth 20000 in
theorem ggX1_earningsFor_X0_isFinishedBy : GoodIn wsX1_earningsFor wsX0_isFinishedBy := goodIn_r _ [30, 31, 32, 33, 56, 57, 58, 59, 60, 61, 62, 63, 64, 65, 66] (by decide +kernel) (by decide +kernel)
set_option maxRecDepth 20000 in
theorem gX1_earningsFor_X0_isFinishedBy : GoodIn wsX1_earningsFor (wsV RX1 200 RX0 yX0_isFinishedBy wsX0_isFinishedBy) := goodIn_app (goodIn_of _ (by decide +kernel)) ggX1_earningsFor_X0_isFinishedBy
set_option maxRecDepth 20000 in
theorem ggX1_earningsFor_X0_allForDriver : GoodIn wsX1_earningsFor wsX0_allForDriver := goodIn_r _ [37, 38, 39, 40, 29, 41, 42, 43, 44, 45, 46, 47, 56, 57, 58, 59, 60, 61, 62, 63, 64, 65, 66] (by decide +kernel) (by decide +kernel)
set_option maxRecDepth 20000 in
theorem gX1_earningsFor_X0_allForDriver : GoodIn wsX1_earningsFor (wsV RX1 204 RX0 yX0_allForDriver wsX0_allForDriver) := goodIn_app (goodIn_of _ (by decide +kernel)) ggX1_earningsFor_X0_allForDriver
theorem dX1_earningsFor_0 : decode cX1_earningsFor 0 = .ok (.iconst 0, 1) := by decide +kernel
theorem dX1_earningsFor_1 : decode cX1_earningsFor 1 = .ok (.istore_n 3, 1) := by decide +kernel
theorem dX1_earningsFor_2 : decode cX1_earningsFor 2 = .ok (.iconst 0, 1) := by decide +kernel
theorem dX1_earningsFor_3 : decode cX1_earningsFor 3 = .ok (.istore 4, 2) := by decide +kernel
theorem dX1_earningsFor_5 : decode cX1_earningsFor 5 = .ok (.iload 4, 2) := by decide +kernel
theorem dX1_earningsFor_7 : decode cX1_earningsFor 7 = .ok (.aload_n 0, 1) := by decide +kernel
theorem dX1_earningsFor_8 : decode cX1_earningsFor 8 = .ok (.getfield 10, 3) := by decide +kernel
theorem dX1_earningsFor_11 : decode cX1_earningsFor 11 = .ok (.invokevirtual 38, 3) := by decide +kernel
theorem dX1_earningsFor_14 : decode cX1_earningsFor 14 = .ok (.if_icmp .ge 41, 3) := by decide +kernel
theorem dX1_earningsFor_17 : decode cX1_earningsFor 17 = .ok (.aload_n 0, 1) := by decide +kernel
theorem dX1_earningsFor_18 : decode cX1_earningsFor 18 = .ok (.getfield 10, 3) := by decide +kernel
theorem dX1_earningsFor_21 : decode cX1_earningsFor 21 = .ok (.iload 4, 2) := by decide +kernel
theorem dX1_earningsFor_23 : decode cX1_earningsFor 23 = .ok (.invokevirtual 159, 3) := by decide +kernel
theorem dX1_earningsFor_26 : decode cX1_earningsFor 26 = .ok (.checkcast 55, 3) := by decide +kernel
theorem dX1_earningsFor_29 : decode cX1_earningsFor 29 = .ok (.astore 5, 2) := by decide +kernel
theorem dX1_earningsFor_31 : decode cX1_earningsFor 31 = .ok (.aload 5, 2) := by decide +kernel
theorem dX1_earningsFor_33 : decode cX1_earningsFor 33 = .ok (.iload_n 1, 1) := by decide +kernel
theorem dX1_earningsFor_34 : decode cX1_earningsFor 34 = .ok (.iload_n 2, 1) := by decide +kernel
theorem dX1_earningsFor_35 : decode cX1_earningsFor 35 = .ok (.invokevirtual 200, 3) := by decide +kernel
theorem dX1_earningsFor_38 : decode cX1_earningsFor 38 = .ok (.ifCond .eq 11, 3) := by decide +kernel
theorem dX1_earningsFor_41 : decode cX1_earningsFor 41 = .ok (.iload_n 3, 1) := by decide +kernel
theorem dX1_earningsFor_42 : decode cX1_earningsFor 42 = .ok (.aload 5, 2) := by decide +kernel
theorem dX1_earningsFor_44 : decode cX1_earningsFor 44 = .ok (.invokevirtual 204, 3) := by decide +kernel
theorem dX1_earningsFor_47 : decode cX1_earningsFor 47 = .ok (.iadd, 1) := by decide +kernel
theorem dX1_earningsFor_48 : decode cX1_earningsFor 48 = .ok (.istore_n 3, 1) := by decide +kernel
theorem dX1_earningsFor_49 : decode cX1_earningsFor 49 = .ok (.iinc 4 1, 3) := by decide +kernel
theorem dX1_earningsFor_52 : decode cX1_earningsFor 52 = .ok (.goto (-47), 3) := by decide +kernel
theorem dX1_earningsFor_55 : decode cX1_earningsFor 55 = .ok (.iload_n 3, 1) := by decide +kernel
theorem dX1_earningsFor_56 : decode cX1_earningsFor 56 = .ok (.ireturn, 1) := by decide +kernel
set_option maxRecDepth 20000 in
theorem ggX1_floorFor_Jx4a65c_size_8abf5 : GoodIn wsX1_floorFor wsJx4a65c_size_8abf5 := goodIn_r _ [7, 8, 54, 55, 56] (by decide +kernel) (by decide +kernel)
set_option maxRecDepth 20000 in
theorem gX1_floorFor_Jx4a65c_size_8abf5 : GoodIn wsX1_floorFor (wsV RX1 38 RJx4a65c yJx4a65c_size_8abf5 wsJx4a65c_size_8abf5) := goodIn_app (goodIn_of _ (by decide +kernel)) ggX1_floorFor_Jx4a65c_size_8abf5
set_option maxRecDepth 20000 in
theorem ggX1_floorFor_Jx4a65c_get_915e3 : GoodIn wsX1_floorFor wsJx4a65c_get_915e3 := goodIn_r _ [12, 8, 13, 14, 15, 16, 17, 18, 19, 20, 21, 22, 23, 6, 24, 25, 54, 55, 56] (by decide +kernel) (by decide +kernel)
set_option maxRecDepth 20000 in
theorem gX1_floorFor_Jx4a65c_get_915e3 : GoodIn wsX1_floorFor (wsV RX1 159 RJx4a65c yJx4a65c_get_915e3 wsJx4a65c_get_915e3) := goodIn_app (goodIn_of _ (by decide +kernel)) ggX1_floorFor_Jx4a65c_get_915e3
set_option maxRecDepth 20000 in
theorem ggX1_floorFor_X0_isFinishedBy : GoodIn wsX1_floorFor wsX0_isFinishedBy := goodIn_r _ [30, 31, 32, 33, 57, 58, 59, 60, 61, 62, 63, 64, 65, 66, 67] (by decide +kernel) (by decide +kernel)
set_option maxRecDepth 20000 in
theorem gX1_floorFor_X0_isFinishedBy : GoodIn wsX1_floorFor (wsV RX1 200 RX0 yX0_isFinishedBy wsX0_isFinishedBy) := goodIn_app (goodIn_of _ (by decide +kernel)) ggX1_floorFor_X0_isFinishedBy
set_option maxRecDepth 20000 in
theorem ggX1_floorFor_X0_countsAsVoid : GoodIn wsX1_floorFor wsX0_countsAsVoid := goodIn_r _ [37, 38, 39, 40, 31, 41, 42, 29, 43, 57, 58, 59, 60, 61, 62, 63, 64, 65, 66, 67] (by decide +kernel) (by decide +kernel)
set_option maxRecDepth 20000 in
theorem gX1_floorFor_X0_countsAsVoid : GoodIn wsX1_floorFor (wsV RX1 129 RX0 yX0_countsAsVoid wsX0_countsAsVoid) := goodIn_app (goodIn_of _ (by decide +kernel)) ggX1_floorFor_X0_countsAsVoid
set_option maxRecDepth 20000 in
theorem ggX1_floorFor_X0_allMinutes : GoodIn wsX1_floorFor wsX0_allMinutes := goodIn_r _ [47, 48, 57, 58, 59, 60, 61, 62, 63, 64, 65, 66, 67] (by decide +kernel) (by decide +kernel)
set_option maxRecDepth 20000 in
theorem gX1_floorFor_X0_allMinutes : GoodIn wsX1_floorFor (wsV RX1 207 RX0 yX0_allMinutes wsX0_allMinutes) := goodIn_app (goodIn_of _ (by decide +kernel)) ggX1_floorFor_X0_allMinutes
theorem dX1_floorFor_0 : decode cX1_floorFor 0 = .ok (.iconst 0, 1) := by decide +kernel
theorem dX1_floorFor_1 : decode cX1_floorFor 1 = .ok (.istore_n 3, 1) := by decide +kernel
theorem dX1_floorFor_2 : decode cX1_floorFor 2 = .ok (.iconst 0, 1) := by decide +kernel
theorem dX1_floorFor_3 : decode cX1_floorFor 3 = .ok (.istore 4, 2) := by decide +kernel
theorem dX1_floorFor_5 : decode cX1_floorFor 5 = .ok (.iload 4, 2) := by decide +kernel
theorem dX1_floorFor_7 : decode cX1_floorFor 7 = .ok (.aload_n 0, 1) := by decide +kernel
theorem dX1_floorFor_8 : decode cX1_floorFor 8 = .ok (.getfield 10, 3) := by decide +kernel
theorem dX1_floorFor_11 : decode cX1_floorFor 11 = .ok (.invokevirtual 38, 3) := by decide +kernel
theorem dX1_floorFor_14 : decode cX1_floorFor 14 = .ok (.if_icmp .ge 49, 3) := by decide +kernel
theorem dX1_floorFor_17 : decode cX1_floorFor 17 = .ok (.aload_n 0, 1) := by decide +kernel
theorem dX1_floorFor_18 : decode cX1_floorFor 18 = .ok (.getfield 10, 3) := by decide +kernel
theorem dX1_floorFor_21 : decode cX1_floorFor 21 = .ok (.iload 4, 2) := by decide +kernel
theorem dX1_floorFor_23 : decode cX1_floorFor 23 = .ok (.invokevirtual 159, 3) := by decide +kernel
theorem dX1_floorFor_26 : decode cX1_floorFor 26 = .ok (.checkcast 55, 3) := by decide +kernel
theorem dX1_floorFor_29 : decode cX1_floorFor 29 = .ok (.astore 5, 2) := by decide +kernel
theorem dX1_floorFor_31 : decode cX1_floorFor 31 = .ok (.aload 5, 2) := by decide +kernel
theorem dX1_floorFor_33 : decode cX1_floorFor 33 = .ok (.iload_n 1, 1) := by decide +kernel
theorem dX1_floorFor_34 : decode cX1_floorFor 34 = .ok (.iload_n 2, 1) := by decide +kernel
theorem dX1_floorFor_35 : decode cX1_floorFor 35 = .ok (.invokevirtual 200, 3) := by decide +kernel
theorem dX1_floorFor_38 : decode cX1_floorFor 38 = .ok (.ifCond .eq 19, 3) := by decide +kernel
theorem dX1_floorFor_41 : decode cX1_floorFor 41 = .ok (.aload 5, 2) := by decide +kernel
theorem dX1_floorFor_43 : decode cX1_floorFor 43 = .ok (.invokevirtual 129, 3) := by decide +kernel
theorem dX1_floorFor_46 : decode cX1_floorFor 46 = .ok (.ifCond .ne 11, 3) := by decide +kernel
theorem dX1_floorFor_49 : decode cX1_floorFor 49 = .ok (.iload_n 3, 1) := by decide +kernel
theorem dX1_floorFor_50 : decode cX1_floorFor 50 = .ok (.aload 5, 2) := by decide +kernel
theorem dX1_floorFor_52 : decode cX1_floorFor 52 = .ok (.invokevirtual 207, 3) := by decide +kernel
theorem dX1_floorFor_55 : decode cX1_floorFor 55 = .ok (.iadd, 1) := by decide +kernel
theorem dX1_floorFor_56 : decode cX1_floorFor 56 = .ok (.istore_n 3, 1) := by decide +kernel
theorem dX1_floorFor_57 : decode cX1_floorFor 57 = .ok (.iinc 4 1, 3) := by decide +kernel
theorem dX1_floorFor_60 : decode cX1_floorFor 60 = .ok (.goto (-55), 3) := by decide +kernel
theorem dX1_floorFor_63 : decode cX1_floorFor 63 = .ok (.sipush 1500, 3) := by decide +kernel
theorem dX1_floorFor_66 : decode cX1_floorFor 66 = .ok (.iload_n 3, 1) := by decide +kernel
theorem dX1_floorFor_67 : decode cX1_floorFor 67 = .ok (.imul, 1) := by decide +kernel
theorem dX1_floorFor_68 : decode cX1_floorFor 68 = .ok (.bipush 60, 2) := by decide +kernel
theorem dX1_floorFor_70 : decode cX1_floorFor 70 = .ok (.idiv, 1) := by decide +kernel
theorem dX1_floorFor_71 : decode cX1_floorFor 71 = .ok (.ireturn, 1) := by decide +kernel
set_option maxRecDepth 20000 in
theorem ggX1_topUpOn_X1_floorFor : GoodIn wsX1_topUpOn wsX1_floorFor := goodIn_r _ [9, 10, 11, 12, 13, 14, 15, 16, 17, 18, 19, 20, 21, 22, 23, 24, 25, 26, 27, 28, 29, 30, 31, 32, 33, 34, 35, 36, 37, 38, 39, 40, 41, 42, 43, 44, 45, 46, 47, 48, 49, 50, 51, 52, 53, 54, 55, 56, 57, 58, 59, 60, 61, 62, 63, 64, 65, 66, 67, 68, 69, 70, 71, 72, 73, 74, 75, 76] (by decide +kernel) (by decide +kernel)
set_option maxRecDepth 20000 in
theorem gX1_topUpOn_X1_floorFor : GoodIn wsX1_topUpOn (wsV RX1 210 RX1 yX1_floorFor wsX1_floorFor) := goodIn_app (goodIn_of _ (by decide +kernel)) ggX1_topUpOn_X1_floorFor
theorem dX1_topUpOn_0 : decode cX1_topUpOn 0 = .ok (.aload_n 0, 1) := by decide +kernel
theorem dX1_topUpOn_1 : decode cX1_topUpOn 1 = .ok (.iload_n 2, 1) := by decide +kernel
theorem dX1_topUpOn_2 : decode cX1_topUpOn 2 = .ok (.iload_n 3, 1) := by decide +kernel
theorem dX1_topUpOn_3 : decode cX1_topUpOn 3 = .ok (.invokevirtual 210, 3) := by decide +kernel
theorem dX1_topUpOn_6 : decode cX1_topUpOn 6 = .ok (.iload_n 1, 1) := by decide +kernel
theorem dX1_topUpOn_7 : decode cX1_topUpOn 7 = .ok (.isub, 1) := by decide +kernel
theorem dX1_topUpOn_8 : decode cX1_topUpOn 8 = .ok (.iconst 0, 1) := by decide +kernel
theorem dX1_topUpOn_9 : decode cX1_topUpOn 9 = .ok (.invokestatic 213, 3) := by decide +kernel
theorem dX1_topUpOn_12 : decode cX1_topUpOn 12 = .ok (.ireturn, 1) := by decide +kernel
set_option maxRecDepth 20000 in
theorem ggX1_bonusFor_Jx4a65c_size_8abf5 : GoodIn wsX1_bonusFor wsJx4a65c_size_8abf5 := goodIn_r _ [7, 8, 53, 54, 55] (by decide +kernel) (by decide +kernel)
set_option maxRecDepth 20000 in
theorem gX1_bonusFor_Jx4a65c_size_8abf5 : GoodIn wsX1_bonusFor (wsV RX1 38 RJx4a65c yJx4a65c_size_8abf5 wsJx4a65c_size_8abf5) := goodIn_app (goodIn_of _ (by decide +kernel)) ggX1_bonusFor_Jx4a65c_size_8abf5
set_option maxRecDepth 20000 in
theorem ggX1_bonusFor_Jx4a65c_get_915e3 : GoodIn wsX1_bonusFor wsJx4a65c_get_915e3 := goodIn_r _ [12, 8, 13, 14, 15, 16, 17, 18, 19, 20, 21, 22, 23, 6, 24, 25, 53, 54, 55] (by decide +kernel) (by decide +kernel)
set_option maxRecDepth 20000 in
theorem gX1_bonusFor_Jx4a65c_get_915e3 : GoodIn wsX1_bonusFor (wsV RX1 159 RJx4a65c yJx4a65c_get_915e3 wsJx4a65c_get_915e3) := goodIn_app (goodIn_of _ (by decide +kernel)) ggX1_bonusFor_Jx4a65c_get_915e3
set_option maxRecDepth 20000 in
theorem ggX1_bonusFor_X0_isFinishedBy : GoodIn wsX1_bonusFor wsX0_isFinishedBy := goodIn_r _ [30, 31, 32, 33, 56, 57, 58, 59, 60, 61, 62, 63, 64, 65, 66] (by decide +kernel) (by decide +kernel)
set_option maxRecDepth 20000 in
theorem gX1_bonusFor_X0_isFinishedBy : GoodIn wsX1_bonusFor (wsV RX1 200 RX0 yX0_isFinishedBy wsX0_isFinishedBy) := goodIn_app (goodIn_of _ (by decide +kernel)) ggX1_bonusFor_X0_isFinishedBy
set_option maxRecDepth 20000 in
theorem ggX1_bonusFor_X0_countsAsVoid : GoodIn wsX1_bonusFor wsX0_countsAsVoid := goodIn_r _ [37, 38, 39, 40, 31, 41, 42, 29, 43, 56, 57, 58, 59, 60, 61, 62, 63, 64, 65, 66] (by decide +kernel) (by decide +kernel)
set_option maxRecDepth 20000 in
theorem gX1_bonusFor_X0_countsAsVoid : GoodIn wsX1_bonusFor (wsV RX1 129 RX0 yX0_countsAsVoid wsX0_countsAsVoid) := goodIn_app (goodIn_of _ (by decide +kernel)) ggX1_bonusFor_X0_countsAsVoid
set_option maxRecDepth 20000 in
theorem ggX1_bonusFor_X1_bonusForRides : GoodIn wsX1_bonusFor wsX1_bonusForRides := goodIn_r _ [47] (by decide +kernel) (by decide +kernel)
set_option maxRecDepth 20000 in
theorem gX1_bonusFor_X1_bonusForRides : GoodIn wsX1_bonusFor (va_wsS RX1 218 yX1_bonusForRides wsX1_bonusForRides) := goodIn_app (goodIn_of _ (by decide +kernel)) ggX1_bonusFor_X1_bonusForRides
theorem dX1_bonusFor_0 : decode cX1_bonusFor 0 = .ok (.iconst 0, 1) := by decide +kernel
theorem dX1_bonusFor_1 : decode cX1_bonusFor 1 = .ok (.istore_n 3, 1) := by decide +kernel
theorem dX1_bonusFor_2 : decode cX1_bonusFor 2 = .ok (.iconst 0, 1) := by decide +kernel
theorem dX1_bonusFor_3 : decode cX1_bonusFor 3 = .ok (.istore 4, 2) := by decide +kernel
theorem dX1_bonusFor_5 : decode cX1_bonusFor 5 = .ok (.iload 4, 2) := by decide +kernel
theorem dX1_bonusFor_7 : decode cX1_bonusFor 7 = .ok (.aload_n 0, 1) := by decide +kernel
theorem dX1_bonusFor_8 : decode cX1_bonusFor 8 = .ok (.getfield 10, 3) := by decide +kernel
theorem dX1_bonusFor_11 : decode cX1_bonusFor 11 = .ok (.invokevirtual 38, 3) := by decide +kernel
theorem dX1_bonusFor_14 : decode cX1_bonusFor 14 = .ok (.if_icmp .ge 44, 3) := by decide +kernel
theorem dX1_bonusFor_17 : decode cX1_bonusFor 17 = .ok (.aload_n 0, 1) := by decide +kernel
theorem dX1_bonusFor_18 : decode cX1_bonusFor 18 = .ok (.getfield 10, 3) := by decide +kernel
theorem dX1_bonusFor_21 : decode cX1_bonusFor 21 = .ok (.iload 4, 2) := by decide +kernel
theorem dX1_bonusFor_23 : decode cX1_bonusFor 23 = .ok (.invokevirtual 159, 3) := by decide +kernel
theorem dX1_bonusFor_26 : decode cX1_bonusFor 26 = .ok (.checkcast 55, 3) := by decide +kernel
theorem dX1_bonusFor_29 : decode cX1_bonusFor 29 = .ok (.astore 5, 2) := by decide +kernel
theorem dX1_bonusFor_31 : decode cX1_bonusFor 31 = .ok (.aload 5, 2) := by decide +kernel
theorem dX1_bonusFor_33 : decode cX1_bonusFor 33 = .ok (.iload_n 1, 1) := by decide +kernel
theorem dX1_bonusFor_34 : decode cX1_bonusFor 34 = .ok (.iload_n 2, 1) := by decide +kernel
theorem dX1_bonusFor_35 : decode cX1_bonusFor 35 = .ok (.invokevirtual 200, 3) := by decide +kernel
theorem dX1_bonusFor_38 : decode cX1_bonusFor 38 = .ok (.ifCond .eq 14, 3) := by decide +kernel
theorem dX1_bonusFor_41 : decode cX1_bonusFor 41 = .ok (.aload 5, 2) := by decide +kernel
theorem dX1_bonusFor_43 : decode cX1_bonusFor 43 = .ok (.invokevirtual 129, 3) := by decide +kernel
theorem dX1_bonusFor_46 : decode cX1_bonusFor 46 = .ok (.ifCond .ne 6, 3) := by decide +kernel
theorem dX1_bonusFor_49 : decode cX1_bonusFor 49 = .ok (.iinc 3 1, 3) := by decide +kernel
theorem dX1_bonusFor_52 : decode cX1_bonusFor 52 = .ok (.iinc 4 1, 3) := by decide +kernel
theorem dX1_bonusFor_55 : decode cX1_bonusFor 55 = .ok (.goto (-50), 3) := by decide +kernel
theorem dX1_bonusFor_58 : decode cX1_bonusFor 58 = .ok (.iload_n 3, 1) := by decide +kernel
theorem dX1_bonusFor_59 : decode cX1_bonusFor 59 = .ok (.invokestatic 218, 3) := by decide +kernel
theorem dX1_bonusFor_62 : decode cX1_bonusFor 62 = .ok (.ireturn, 1) := by decide +kernel
theorem dX1_bonusForRides_0 : decode cX1_bonusForRides 0 = .ok (.iload_n 0, 1) := by decide +kernel
theorem dX1_bonusForRides_1 : decode cX1_bonusForRides 1 = .ok (.bipush 9, 2) := by decide +kernel
theorem dX1_bonusForRides_3 : decode cX1_bonusForRides 3 = .ok (.if_icmp .lt 7, 3) := by decide +kernel
theorem dX1_bonusForRides_6 : decode cX1_bonusForRides 6 = .ok (.sipush 6000, 3) := by decide +kernel
theorem dX1_bonusForRides_9 : decode cX1_bonusForRides 9 = .ok (.ireturn, 1) := by decide +kernel
theorem dX1_bonusForRides_10 : decode cX1_bonusForRides 10 = .ok (.iload_n 0, 1) := by decide +kernel
theorem dX1_bonusForRides_11 : decode cX1_bonusForRides 11 = .ok (.bipush 6, 2) := by decide +kernel
theorem dX1_bonusForRides_13 : decode cX1_bonusForRides 13 = .ok (.if_icmp .lt 7, 3) := by decide +kernel
theorem dX1_bonusForRides_16 : decode cX1_bonusForRides 16 = .ok (.sipush 3000, 3) := by decide +kernel
theorem dX1_bonusForRides_19 : decode cX1_bonusForRides 19 = .ok (.ireturn, 1) := by decide +kernel
theorem dX1_bonusForRides_20 : decode cX1_bonusForRides 20 = .ok (.iload_n 0, 1) := by decide +kernel
theorem dX1_bonusForRides_21 : decode cX1_bonusForRides 21 = .ok (.iconst 3, 1) := by decide +kernel
theorem dX1_bonusForRides_22 : decode cX1_bonusForRides 22 = .ok (.if_icmp .lt 9, 3) := by decide +kernel
theorem dX1_bonusForRides_25 : decode cX1_bonusForRides 25 = .ok (.sipush 1000, 3) := by decide +kernel
theorem dX1_bonusForRides_28 : decode cX1_bonusForRides 28 = .ok (.goto 4, 3) := by decide +kernel
theorem dX1_bonusForRides_31 : decode cX1_bonusForRides 31 = .ok (.iconst 0, 1) := by decide +kernel
theorem dX1_bonusForRides_32 : decode cX1_bonusForRides 32 = .ok (.ireturn, 1) := by decide +kernel
set_option maxRecDepth 20000 in
theorem ggX1_payFor_X1_earningsFor : GoodIn wsX1_payFor wsX1_earningsFor := goodIn_r _ [5, 6, 7, 8, 9, 10, 11, 12, 13, 14, 15, 16, 17, 18, 19, 20, 21, 22, 23, 24, 25, 26, 27, 28, 29, 30, 31, 32, 33, 34, 35, 36, 37, 38, 39, 40, 41, 42, 43, 44, 45, 46, 47, 48, 49, 50, 51, 52, 81, 82, 83, 84, 85, 86, 87, 88, 89, 90, 91, 92, 93, 94, 95, 96, 97, 98, 99] (by decide +kernel) (by decide +kernel)
set_option maxRecDepth 20000 in
theorem gX1_payFor_X1_earningsFor : GoodIn wsX1_payFor (wsV RX1 176 RX1 yX1_earningsFor wsX1_earningsFor) := goodIn_app (goodIn_of _ (by decide +kernel)) ggX1_payFor_X1_earningsFor
set_option maxRecDepth 20000 in
theorem ggX1_payFor_X1_topUpOn : GoodIn wsX1_payFor wsX1_topUpOn := goodIn_r _ [56, 57, 58, 59, 60, 61, 62, 63, 4, 64, 6, 7, 8, 9, 10, 11, 12, 13, 14, 15, 16, 17, 18, 19, 20, 21, 22, 23, 24, 25, 26, 27, 28, 29, 30, 31, 32, 33, 34, 35, 36, 37, 38, 65, 66, 67, 68, 47, 48, 49, 50, 51, 52, 69, 70, 71, 72, 73, 81, 82, 83, 84, 85, 86, 87, 88, 89, 90, 91, 92, 93, 94, 95, 96, 97, 98, 99] (by decide +kernel) (by decide +kernel)
set_option maxRecDepth 20000 in
theorem gX1_payFor_X1_topUpOn : GoodIn wsX1_payFor (wsV RX1 179 RX1 yX1_topUpOn wsX1_topUpOn) := goodIn_app (goodIn_of _ (by decide +kernel)) ggX1_payFor_X1_topUpOn
set_option maxRecDepth 20000 in
theorem ggX1_payFor_X1_bonusFor : GoodIn wsX1_payFor wsX1_bonusFor := goodIn_r _ [77, 6, 7, 8, 9, 10, 11, 12, 13, 14, 15, 16, 17, 18, 19, 20, 21, 22, 23, 24, 25, 26, 27, 28, 29, 30, 31, 32, 33, 34, 35, 36, 37, 38, 65, 66, 67, 68, 47, 48, 49, 50, 51, 52, 78, 79, 4, 80, 81, 82, 83, 84, 85, 86, 87, 88, 89, 90, 91, 92, 93, 94, 95, 96, 97, 98, 99] (by decide +kernel) (by decide +kernel)
set_option maxRecDepth 20000 in
theorem gX1_payFor_X1_bonusFor : GoodIn wsX1_payFor (wsV RX1 183 RX1 yX1_bonusFor wsX1_bonusFor) := goodIn_app (goodIn_of _ (by decide +kernel)) ggX1_payFor_X1_bonusFor
theorem dX1_payFor_0 : decode cX1_payFor 0 = .ok (.aload_n 0, 1) := by decide +kernel
theorem dX1_payFor_1 : decode cX1_payFor 1 = .ok (.iload_n 1, 1) := by decide +kernel
theorem dX1_payFor_2 : decode cX1_payFor 2 = .ok (.iload_n 2, 1) := by decide +kernel
theorem dX1_payFor_3 : decode cX1_payFor 3 = .ok (.invokevirtual 176, 3) := by decide +kernel
theorem dX1_payFor_6 : decode cX1_payFor 6 = .ok (.istore_n 3, 1) := by decide +kernel
theorem dX1_payFor_7 : decode cX1_payFor 7 = .ok (.iload_n 3, 1) := by decide +kernel
theorem dX1_payFor_8 : decode cX1_payFor 8 = .ok (.aload_n 0, 1) := by decide +kernel
theorem dX1_payFor_9 : decode cX1_payFor 9 = .ok (.iload_n 3, 1) := by decide +kernel
theorem dX1_payFor_10 : decode cX1_payFor 10 = .ok (.iload_n 1, 1) := by decide +kernel
theorem dX1_payFor_11 : decode cX1_payFor 11 = .ok (.iload_n 2, 1) := by decide +kernel
theorem dX1_payFor_12 : decode cX1_payFor 12 = .ok (.invokevirtual 179, 3) := by decide +kernel
theorem dX1_payFor_15 : decode cX1_payFor 15 = .ok (.iadd, 1) := by decide +kernel
theorem dX1_payFor_16 : decode cX1_payFor 16 = .ok (.aload_n 0, 1) := by decide +kernel
theorem dX1_payFor_17 : decode cX1_payFor 17 = .ok (.iload_n 1, 1) := by decide +kernel
theorem dX1_payFor_18 : decode cX1_payFor 18 = .ok (.iload_n 2, 1) := by decide +kernel
theorem dX1_payFor_19 : decode cX1_payFor 19 = .ok (.invokevirtual 183, 3) := by decide +kernel
theorem dX1_payFor_22 : decode cX1_payFor 22 = .ok (.iadd, 1) := by decide +kernel
theorem dX1_payFor_23 : decode cX1_payFor 23 = .ok (.ireturn, 1) := by decide +kernel
set_option maxRecDepth 20000 in
theorem ggX1_payBefore_X1_payFor : GoodIn wsX1_payBefore wsX1_payFor := goodIn_r _ [5, 6, 7, 8, 4, 9, 10, 11, 12, 13, 14, 15, 16, 17, 18, 19, 20, 21, 22, 23, 24, 25, 26, 27, 28, 29, 30, 31, 32, 33, 34, 35, 36, 37, 38, 39, 40, 41, 42, 43, 44, 45, 46, 47, 48, 49, 50, 51, 52, 53, 54, 55, 56, 57, 58, 59, 60, 61, 62, 63, 64, 65, 66, 67, 68, 69, 70, 71, 72, 73, 74, 75, 76, 77, 78, 79, 80, 81, 82, 83, 84, 85, 86, 87, 88, 89, 90, 91, 92, 93, 94, 95, 96, 97, 98, 99, 100, 101, 102, 103] (by decide +kernel) (by decide +kernel)
set_option maxRecDepth 20000 in
theorem gX1_payBefore_X1_payFor : GoodIn wsX1_payBefore (wsV RX1 186 RX1 yX1_payFor wsX1_payFor) := goodIn_app (goodIn_of _ (by decide +kernel)) ggX1_payBefore_X1_payFor
theorem dX1_payBefore_0 : decode cX1_payBefore 0 = .ok (.iconst 0, 1) := by decide +kernel
theorem dX1_payBefore_1 : decode cX1_payBefore 1 = .ok (.istore_n 3, 1) := by decide +kernel
theorem dX1_payBefore_2 : decode cX1_payBefore 2 = .ok (.iconst 0, 1) := by decide +kernel
theorem dX1_payBefore_3 : decode cX1_payBefore 3 = .ok (.istore 4, 2) := by decide +kernel
theorem dX1_payBefore_5 : decode cX1_payBefore 5 = .ok (.iload 4, 2) := by decide +kernel
theorem dX1_payBefore_7 : decode cX1_payBefore 7 = .ok (.iload_n 2, 1) := by decide +kernel
theorem dX1_payBefore_8 : decode cX1_payBefore 8 = .ok (.if_icmp .ge 19, 3) := by decide +kernel
theorem dX1_payBefore_11 : decode cX1_payBefore 11 = .ok (.iload_n 3, 1) := by decide +kernel
theorem dX1_payBefore_12 : decode cX1_payBefore 12 = .ok (.aload_n 0, 1) := by decide +kernel
theorem dX1_payBefore_13 : decode cX1_payBefore 13 = .ok (.iload_n 1, 1) := by decide +kernel
theorem dX1_payBefore_14 : decode cX1_payBefore 14 = .ok (.iload 4, 2) := by decide +kernel
theorem dX1_payBefore_16 : decode cX1_payBefore 16 = .ok (.invokevirtual 186, 3) := by decide +kernel
theorem dX1_payBefore_19 : decode cX1_payBefore 19 = .ok (.iadd, 1) := by decide +kernel
theorem dX1_payBefore_20 : decode cX1_payBefore 20 = .ok (.istore_n 3, 1) := by decide +kernel
theorem dX1_payBefore_21 : decode cX1_payBefore 21 = .ok (.iinc 4 1, 3) := by decide +kernel
theorem dX1_payBefore_24 : decode cX1_payBefore 24 = .ok (.goto (-19), 3) := by decide +kernel
theorem dX1_payBefore_27 : decode cX1_payBefore 27 = .ok (.iload_n 3, 1) := by decide +kernel
theorem dX1_payBefore_28 : decode cX1_payBefore 28 = .ok (.ireturn, 1) := by decide +kernel
set_option maxRecDepth 20000 in
theorem ggX1_dueTo_X1_payBefore : GoodIn wsX1_dueTo wsX1_payBefore := goodIn_r _ [7, 8, 9, 10, 6, 11, 12, 13, 14, 15, 16, 17, 18, 19, 20, 21, 22, 23, 24, 25, 26, 27, 28, 29, 30, 31, 32, 33, 34, 35, 36, 37, 38, 39, 40, 41, 42, 43, 44, 45, 46, 47, 48, 49, 50, 51, 52, 53, 54, 55, 56, 57, 58, 59, 60, 61, 62, 63, 64, 65, 66, 67, 68, 69, 70, 71, 72, 73, 74, 75, 76, 77, 78, 79, 80, 81, 82, 83, 84, 85, 86, 87, 88, 89, 90, 91, 92, 93, 94, 95, 96, 97, 98, 99, 100, 101, 102, 103, 104, 105, 106, 107, 108, 109] (by decide +kernel) (by decide +kernel)
set_option maxRecDepth 20000 in
theorem gX1_dueTo_X1_payBefore : GoodIn wsX1_dueTo (wsV RX1 195 RX1 yX1_payBefore wsX1_payBefore) := goodIn_app (goodIn_of _ (by decide +kernel)) ggX1_dueTo_X1_payBefore
theorem dX1_dueTo_0 : decode cX1_dueTo 0 = .ok (.aload_n 0, 1) := by decide +kernel
theorem dX1_dueTo_1 : decode cX1_dueTo 1 = .ok (.iload_n 1, 1) := by decide +kernel
theorem dX1_dueTo_2 : decode cX1_dueTo 2 = .ok (.aload_n 0, 1) := by decide +kernel
theorem dX1_dueTo_3 : decode cX1_dueTo 3 = .ok (.getfield 27, 3) := by decide +kernel
theorem dX1_dueTo_6 : decode cX1_dueTo 6 = .ok (.invokevirtual 195, 3) := by decide +kernel
theorem dX1_dueTo_9 : decode cX1_dueTo 9 = .ok (.aload_n 0, 1) := by decide +kernel
theorem dX1_dueTo_10 : decode cX1_dueTo 10 = .ok (.getfield 16, 3) := by decide +kernel
theorem dX1_dueTo_13 : decode cX1_dueTo 13 = .ok (.iload_n 1, 1) := by decide +kernel
theorem dX1_dueTo_14 : decode cX1_dueTo 14 = .ok (.iaload, 1) := by decide +kernel
theorem dX1_dueTo_15 : decode cX1_dueTo 15 = .ok (.isub, 1) := by decide +kernel
theorem dX1_dueTo_16 : decode cX1_dueTo 16 = .ok (.ireturn, 1) := by decide +kernel
set_option maxRecDepth 20000 in
theorem ggX1_isDriving_Jx4a65c_size_8abf5 : GoodIn wsX1_isDriving wsJx4a65c_size_8abf5 := goodIn_r _ [7, 8, 42, 43, 44] (by decide +kernel) (by decide +kernel)
set_option maxRecDepth 20000 in
theorem gX1_isDriving_Jx4a65c_size_8abf5 : GoodIn wsX1_isDriving (wsV RX1 38 RJx4a65c yJx4a65c_size_8abf5 wsJx4a65c_size_8abf5) := goodIn_app (goodIn_of _ (by decide +kernel)) ggX1_isDriving_Jx4a65c_size_8abf5
set_option maxRecDepth 20000 in
theorem ggX1_isDriving_Jx4a65c_get_915e3 : GoodIn wsX1_isDriving wsJx4a65c_get_915e3 := goodIn_r _ [12, 8, 13, 14, 15, 16, 17, 18, 19, 20, 21, 22, 23, 6, 24, 25, 42, 43, 44] (by decide +kernel) (by decide +kernel)
set_option maxRecDepth 20000 in
theorem gX1_isDriving_Jx4a65c_get_915e3 : GoodIn wsX1_isDriving (wsV RX1 159 RJx4a65c yJx4a65c_get_915e3 wsJx4a65c_get_915e3) := goodIn_app (goodIn_of _ (by decide +kernel)) ggX1_isDriving_Jx4a65c_get_915e3
set_option maxRecDepth 20000 in
theorem ggX1_isDriving_X0_isDrivenBy : GoodIn wsX1_isDriving wsX0_isDrivenBy := goodIn_r _ [30, 31, 45, 46, 47, 48, 49, 50, 51, 52, 53, 54, 55] (by decide +kernel) (by decide +kernel)
set_option maxRecDepth 20000 in
theorem gX1_isDriving_X0_isDrivenBy : GoodIn wsX1_isDriving (wsV RX1 221 RX0 yX0_isDrivenBy wsX0_isDrivenBy) := goodIn_app (goodIn_of _ (by decide +kernel)) ggX1_isDriving_X0_isDrivenBy
set_option maxRecDepth 20000 in
theorem ggX1_isDriving_X0_isFinished : GoodIn wsX1_isDriving wsX0_isFinished := goodIn_r _ [35, 36, 45, 46, 47, 48, 49, 50, 51, 52, 53, 54, 55] (by decide +kernel) (by decide +kernel)
set_option maxRecDepth 20000 in
theorem gX1_isDriving_X0_isFinished : GoodIn wsX1_isDriving (wsV RX1 133 RX0 yX0_isFinished wsX0_isFinished) := goodIn_app (goodIn_of _ (by decide +kernel)) ggX1_isDriving_X0_isFinished
theorem dX1_isDriving_0 : decode cX1_isDriving 0 = .ok (.iconst 0, 1) := by decide +kernel
theorem dX1_isDriving_1 : decode cX1_isDriving 1 = .ok (.istore_n 2, 1) := by decide +kernel
theorem dX1_isDriving_2 : decode cX1_isDriving 2 = .ok (.iload_n 2, 1) := by decide +kernel
theorem dX1_isDriving_3 : decode cX1_isDriving 3 = .ok (.aload_n 0, 1) := by decide +kernel
theorem dX1_isDriving_4 : decode cX1_isDriving 4 = .ok (.getfield 10, 3) := by decide +kernel
theorem dX1_isDriving_7 : decode cX1_isDriving 7 = .ok (.invokevirtual 38, 3) := by decide +kernel
theorem dX1_isDriving_10 : decode cX1_isDriving 10 = .ok (.if_icmp .ge 38, 3) := by decide +kernel
theorem dX1_isDriving_13 : decode cX1_isDriving 13 = .ok (.aload_n 0, 1) := by decide +kernel
theorem dX1_isDriving_14 : decode cX1_isDriving 14 = .ok (.getfield 10, 3) := by decide +kernel
theorem dX1_isDriving_17 : decode cX1_isDriving 17 = .ok (.iload_n 2, 1) := by decide +kernel
theorem dX1_isDriving_18 : decode cX1_isDriving 18 = .ok (.invokevirtual 159, 3) := by decide +kernel
theorem dX1_isDriving_21 : decode cX1_isDriving 21 = .ok (.checkcast 55, 3) := by decide +kernel
theorem dX1_isDriving_24 : decode cX1_isDriving 24 = .ok (.astore_n 3, 1) := by decide +kernel
theorem dX1_isDriving_25 : decode cX1_isDriving 25 = .ok (.aload_n 3, 1) := by decide +kernel
theorem dX1_isDriving_26 : decode cX1_isDriving 26 = .ok (.iload_n 1, 1) := by decide +kernel
theorem dX1_isDriving_27 : decode cX1_isDriving 27 = .ok (.invokevirtual 221, 3) := by decide +kernel
theorem dX1_isDriving_30 : decode cX1_isDriving 30 = .ok (.ifCond .eq 12, 3) := by decide +kernel
theorem dX1_isDriving_33 : decode cX1_isDriving 33 = .ok (.aload_n 3, 1) := by decide +kernel
theorem dX1_isDriving_34 : decode cX1_isDriving 34 = .ok (.invokevirtual 133, 3) := by decide +kernel
theorem dX1_isDriving_37 : decode cX1_isDriving 37 = .ok (.ifCond .ne 5, 3) := by decide +kernel
theorem dX1_isDriving_40 : decode cX1_isDriving 40 = .ok (.iconst 1, 1) := by decide +kernel
theorem dX1_isDriving_41 : decode cX1_isDriving 41 = .ok (.ireturn, 1) := by decide +kernel
theorem dX1_isDriving_42 : decode cX1_isDriving 42 = .ok (.iinc 2 1, 3) := by decide +kernel
theorem dX1_isDriving_45 : decode cX1_isDriving 45 = .ok (.goto (-43), 3) := by decide +kernel
theorem dX1_isDriving_48 : decode cX1_isDriving 48 = .ok (.iconst 0, 1) := by decide +kernel
theorem dX1_isDriving_49 : decode cX1_isDriving 49 = .ok (.ireturn, 1) := by decide +kernel
set_option maxRecDepth 20000 in
theorem ggX1_isAnyUnderWay_Jx4a65c_size_8abf5 : GoodIn wsX1_isAnyUnderWay wsJx4a65c_size_8abf5 := goodIn_r _ [7, 8, 37, 38, 39] (by decide +kernel) (by decide +kernel)
set_option maxRecDepth 20000 in
theorem gX1_isAnyUnderWay_Jx4a65c_size_8abf5 : GoodIn wsX1_isAnyUnderWay (wsV RX1 38 RJx4a65c yJx4a65c_size_8abf5 wsJx4a65c_size_8abf5) := goodIn_app (goodIn_of _ (by decide +kernel)) ggX1_isAnyUnderWay_Jx4a65c_size_8abf5
set_option maxRecDepth 20000 in
theorem ggX1_isAnyUnderWay_Jx4a65c_get_915e3 : GoodIn wsX1_isAnyUnderWay wsJx4a65c_get_915e3 := goodIn_r _ [12, 8, 13, 14, 15, 16, 17, 18, 19, 20, 21, 22, 23, 6, 24, 25, 37, 38, 39] (by decide +kernel) (by decide +kernel)
set_option maxRecDepth 20000 in
theorem gX1_isAnyUnderWay_Jx4a65c_get_915e3 : GoodIn wsX1_isAnyUnderWay (wsV RX1 159 RJx4a65c yJx4a65c_get_915e3 wsJx4a65c_get_915e3) := goodIn_app (goodIn_of _ (by decide +kernel)) ggX1_isAnyUnderWay_Jx4a65c_get_915e3
set_option maxRecDepth 20000 in
theorem ggX1_isAnyUnderWay_X0_isFinished : GoodIn wsX1_isAnyUnderWay wsX0_isFinished := goodIn_r _ [30, 31, 40, 41, 42, 43, 44, 45, 46, 47, 48, 49, 50] (by decide +kernel) (by decide +kernel)
set_option maxRecDepth 20000 in
theorem gX1_isAnyUnderWay_X0_isFinished : GoodIn wsX1_isAnyUnderWay (wsV RX1 133 RX0 yX0_isFinished wsX0_isFinished) := goodIn_app (goodIn_of _ (by decide +kernel)) ggX1_isAnyUnderWay_X0_isFinished
theorem dX1_isAnyUnderWay_0 : decode cX1_isAnyUnderWay 0 = .ok (.iconst 0, 1) := by decide +kernel
theorem dX1_isAnyUnderWay_1 : decode cX1_isAnyUnderWay 1 = .ok (.istore_n 1, 1) := by decide +kernel
theorem dX1_isAnyUnderWay_2 : decode cX1_isAnyUnderWay 2 = .ok (.iload_n 1, 1) := by decide +kernel
theorem dX1_isAnyUnderWay_3 : decode cX1_isAnyUnderWay 3 = .ok (.aload_n 0, 1) := by decide +kernel
theorem dX1_isAnyUnderWay_4 : decode cX1_isAnyUnderWay 4 = .ok (.getfield 10, 3) := by decide +kernel
theorem dX1_isAnyUnderWay_7 : decode cX1_isAnyUnderWay 7 = .ok (.invokevirtual 38, 3) := by decide +kernel
theorem dX1_isAnyUnderWay_10 : decode cX1_isAnyUnderWay 10 = .ok (.if_icmp .ge 28, 3) := by decide +kernel
theorem dX1_isAnyUnderWay_13 : decode cX1_isAnyUnderWay 13 = .ok (.aload_n 0, 1) := by decide +kernel
theorem dX1_isAnyUnderWay_14 : decode cX1_isAnyUnderWay 14 = .ok (.getfield 10, 3) := by decide +kernel
theorem dX1_isAnyUnderWay_17 : decode cX1_isAnyUnderWay 17 = .ok (.iload_n 1, 1) := by decide +kernel
theorem dX1_isAnyUnderWay_18 : decode cX1_isAnyUnderWay 18 = .ok (.invokevirtual 159, 3) := by decide +kernel
theorem dX1_isAnyUnderWay_21 : decode cX1_isAnyUnderWay 21 = .ok (.checkcast 55, 3) := by decide +kernel
theorem dX1_isAnyUnderWay_24 : decode cX1_isAnyUnderWay 24 = .ok (.invokevirtual 133, 3) := by decide +kernel
theorem dX1_isAnyUnderWay_27 : decode cX1_isAnyUnderWay 27 = .ok (.ifCond .ne 5, 3) := by decide +kernel
theorem dX1_isAnyUnderWay_30 : decode cX1_isAnyUnderWay 30 = .ok (.iconst 1, 1) := by decide +kernel
theorem dX1_isAnyUnderWay_31 : decode cX1_isAnyUnderWay 31 = .ok (.ireturn, 1) := by decide +kernel
theorem dX1_isAnyUnderWay_32 : decode cX1_isAnyUnderWay 32 = .ok (.iinc 1 1, 3) := by decide +kernel
theorem dX1_isAnyUnderWay_35 : decode cX1_isAnyUnderWay 35 = .ok (.goto (-33), 3) := by decide +kernel
theorem dX1_isAnyUnderWay_38 : decode cX1_isAnyUnderWay 38 = .ok (.iconst 0, 1) := by decide +kernel
theorem dX1_isAnyUnderWay_39 : decode cX1_isAnyUnderWay 39 = .ok (.ireturn, 1) := by decide +kernel
set_option maxRecDepth 20000 in
theorem ggX1_existingRide_Jx4a65c_size_8abf5 : GoodIn wsX1_existingRide wsJx4a65c_size_8abf5 := goodIn_r _ [9, 10, 33, 34, 35] (by decide +kernel) (by decide +kernel)
set_option maxRecDepth 20000 in
theorem gX1_existingRide_Jx4a65c_size_8abf5 : GoodIn wsX1_existingRide (wsV RX1 38 RJx4a65c yJx4a65c_size_8abf5 wsJx4a65c_size_8abf5) := goodIn_app (goodIn_of _ (by decide +kernel)) ggX1_existingRide_Jx4a65c_size_8abf5
set_option maxRecDepth 20000 in
theorem ggX1_existingRide_Jx4a65c_get_915e3 : GoodIn wsX1_existingRide wsJx4a65c_get_915e3 := goodIn_r _ [14, 10, 15, 16, 17, 18, 19, 20, 21, 22, 23, 24, 25, 8, 26, 27, 33, 34, 35] (by decide +kernel) (by decide +kernel)
set_option maxRecDepth 20000 in
theorem gX1_existingRide_Jx4a65c_get_915e3 : GoodIn wsX1_existingRide (wsV RX1 159 RJx4a65c yJx4a65c_get_915e3 wsJx4a65c_get_915e3) := goodIn_app (goodIn_of _ (by decide +kernel)) ggX1_existingRide_Jx4a65c_get_915e3
theorem dX1_existingRide_0 : decode cX1_existingRide 0 = .ok (.iload_n 1, 1) := by decide +kernel
theorem dX1_existingRide_1 : decode cX1_existingRide 1 = .ok (.ifCond .lt 14, 3) := by decide +kernel
theorem dX1_existingRide_4 : decode cX1_existingRide 4 = .ok (.iload_n 1, 1) := by decide +kernel
theorem dX1_existingRide_5 : decode cX1_existingRide 5 = .ok (.aload_n 0, 1) := by decide +kernel
theorem dX1_existingRide_6 : decode cX1_existingRide 6 = .ok (.getfield 10, 3) := by decide +kernel
theorem dX1_existingRide_9 : decode cX1_existingRide 9 = .ok (.invokevirtual 38, 3) := by decide +kernel
