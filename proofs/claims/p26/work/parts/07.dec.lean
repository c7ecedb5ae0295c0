theorem dX0_dayOf_39 : decode cX0_dayOf 39 = .ok (.invokevirtual 128, 3) := by decide +kernel
theorem dX0_dayOf_42 : decode cX0_dayOf 42 = .ok (.iload_n 2, 1) := by decide +kernel
theorem dX0_dayOf_43 : decode cX0_dayOf 43 = .ok (.iadd, 1) := by decide +kernel
theorem dX0_dayOf_44 : decode cX0_dayOf 44 = .ok (.ireturn, 1) := by decide +kernel
set_option maxRecDepth 20000 in
theorem ggX0_timesInYear_X0_checkMarket : GoodIn wsX0_timesInYear wsX0_checkMarket := goodIn_ca (goodIn_r _ [5, 6, 7, 8, 9, 10, 4, 11, 53, 54, 55, 56, 57, 58, 59, 60, 61, 62] (by decide +kernel) (by decide +kernel)) (goodIn_sub (fun _ h => List.mem_cons_of_mem _ (List.mem_append_left _ (List.mem_append_right _ h))) (by decide +kernel))
set_option maxRecDepth 20000 in
theorem gX0_timesInYear_X0_checkMarket : GoodIn wsX0_timesInYear (wsV RX0 60 RX0 yX0_checkMarket wsX0_checkMarket) := goodIn_app (goodIn_of _ (by decide +kernel)) ggX0_timesInYear_X0_checkMarket
set_option maxRecDepth 20000 in
theorem ggX0_timesInYear_X0_checkYear : GoodIn wsX0_timesInYear wsX0_checkYear := goodIn_ca (goodIn_r _ [14, 9, 10, 4, 11, 15, 16, 17, 18, 19] (by decide +kernel) (by decide +kernel)) (goodIn_sub (fun _ h => List.mem_cons_of_mem _ (List.mem_append_right _ h)) (by decide +kernel))
set_option maxRecDepth 20000 in
theorem gX0_timesInYear_X0_checkYear : GoodIn wsX0_timesInYear (va_wsS RX0 131 yX0_checkYear wsX0_checkYear) := goodIn_app (goodIn_of _ (by decide +kernel)) ggX0_timesInYear_X0_checkYear
set_option maxRecDepth 20000 in
theorem ggX0_timesInYear_X0_yearBegin : GoodIn wsX0_timesInYear wsX0_yearBegin := goodIn_r _ [23, 24, 25, 26, 27, 28, 29, 4, 30, 31, 32, 33, 34, 53, 54, 55, 56, 57, 58, 59, 60, 61, 62] (by decide +kernel) (by decide +kernel)
set_option maxRecDepth 20000 in
theorem gX0_timesInYear_X0_yearBegin : GoodIn wsX0_timesInYear (wsV RX0 128 RX0 yX0_yearBegin wsX0_yearBegin) := goodIn_app (goodIn_of _ (by decide +kernel)) ggX0_timesInYear_X0_yearBegin
set_option maxRecDepth 20000 in
theorem ggX0_timesInYear_X0_countHeld : GoodIn wsX0_timesInYear wsX0_countHeld := goodIn_r _ [38, 39, 40, 41, 4, 42, 43, 44, 45, 46, 47, 48, 49, 50, 51, 52, 28, 29, 30, 31, 32, 33, 34, 53, 54, 55, 56, 57, 58, 59, 60, 61, 62] (by decide +kernel) (by decide +kernel)
set_option maxRecDepth 20000 in
theorem gX0_timesInYear_X0_countHeld : GoodIn wsX0_timesInYear (wsV RX0 82 RX0 yX0_countHeld wsX0_countHeld) := goodIn_app (goodIn_of _ (by decide +kernel)) ggX0_timesInYear_X0_countHeld
theorem dX0_timesInYear_0 : decode cX0_timesInYear 0 = .ok (.aload_n 0, 1) := by decide +kernel
theorem dX0_timesInYear_1 : decode cX0_timesInYear 1 = .ok (.iload_n 1, 1) := by decide +kernel
theorem dX0_timesInYear_2 : decode cX0_timesInYear 2 = .ok (.invokevirtual 60, 3) := by decide +kernel
theorem dX0_timesInYear_5 : decode cX0_timesInYear 5 = .ok (.iload_n 2, 1) := by decide +kernel
theorem dX0_timesInYear_6 : decode cX0_timesInYear 6 = .ok (.invokestatic 131, 3) := by decide +kernel
theorem dX0_timesInYear_9 : decode cX0_timesInYear 9 = .ok (.aload_n 0, 1) := by decide +kernel
theorem dX0_timesInYear_10 : decode cX0_timesInYear 10 = .ok (.iload_n 1, 1) := by decide +kernel
theorem dX0_timesInYear_11 : decode cX0_timesInYear 11 = .ok (.aload_n 0, 1) := by decide +kernel
theorem dX0_timesInYear_12 : decode cX0_timesInYear 12 = .ok (.iload_n 2, 1) := by decide +kernel
theorem dX0_timesInYear_13 : decode cX0_timesInYear 13 = .ok (.invokevirtual 128, 3) := by decide +kernel
theorem dX0_timesInYear_16 : decode cX0_timesInYear 16 = .ok (.aload_n 0, 1) := by decide +kernel
theorem dX0_timesInYear_17 : decode cX0_timesInYear 17 = .ok (.iload_n 2, 1) := by decide +kernel
theorem dX0_timesInYear_18 : decode cX0_timesInYear 18 = .ok (.iconst 1, 1) := by decide +kernel
theorem dX0_timesInYear_19 : decode cX0_timesInYear 19 = .ok (.iadd, 1) := by decide +kernel
theorem dX0_timesInYear_20 : decode cX0_timesInYear 20 = .ok (.invokevirtual 128, 3) := by decide +kernel
theorem dX0_timesInYear_23 : decode cX0_timesInYear 23 = .ok (.iconst 1, 1) := by decide +kernel
theorem dX0_timesInYear_24 : decode cX0_timesInYear 24 = .ok (.isub, 1) := by decide +kernel
theorem dX0_timesInYear_25 : decode cX0_timesInYear 25 = .ok (.invokevirtual 82, 3) := by decide +kernel
theorem dX0_timesInYear_28 : decode cX0_timesInYear 28 = .ok (.ireturn, 1) := by decide +kernel
theorem dX0_checkArgument_0 : decode cX0_checkArgument 0 = .ok (.iload_n 0, 1) := by decide +kernel
theorem dX0_checkArgument_1 : decode cX0_checkArgument 1 = .ok (.ifCond .ne 13, 3) := by decide +kernel
theorem dX0_checkArgument_4 : decode cX0_checkArgument 4 = .ok (.new 137, 3) := by decide +kernel
theorem dX0_checkArgument_7 : decode cX0_checkArgument 7 = .ok (.dup, 1) := by decide +kernel
theorem dX0_checkArgument_8 : decode cX0_checkArgument 8 = .ok (.ldc 139, 2) := by decide +kernel
theorem dX0_checkArgument_10 : decode cX0_checkArgument 10 = .ok (.invokespecial 141, 3) := by decide +kernel
theorem dX0_checkArgument_13 : decode cX0_checkArgument 13 = .ok (.athrow, 1) := by decide +kernel
theorem dX0_checkArgument_14 : decode cX0_checkArgument 14 = .ok (.return_, 1) := by decide +kernel
set_option maxRecDepth 20000 in
theorem ggX0_checkDay_X0_isWithin : GoodIn wsX0_checkDay wsX0_isWithin := goodIn_r _ [6] (by decide +kernel) (by decide +kernel)
set_option maxRecDepth 20000 in
theorem gX0_checkDay_X0_isWithin : GoodIn wsX0_checkDay (va_wsS RX0 41 yX0_isWithin wsX0_isWithin) := goodIn_app (goodIn_of _ (by decide +kernel)) ggX0_checkDay_X0_isWithin
set_option maxRecDepth 20000 in
theorem ggX0_checkDay_X0_checkArgument : GoodIn wsX0_checkDay wsX0_checkArgument := goodIn_ca (goodIn_r _ [9, 10, 11] (by decide +kernel) (by decide +kernel)) (goodIn_sub (fun _ h => List.mem_cons_of_mem _ (List.mem_append_right _ h)) (by decide +kernel))
set_option maxRecDepth 20000 in
theorem gX0_checkDay_X0_checkArgument : GoodIn wsX0_checkDay (va_wsS RX0 45 yX0_checkArgument wsX0_checkArgument) := goodIn_app (goodIn_of _ (by decide +kernel)) ggX0_checkDay_X0_checkArgument
theorem dX0_checkDay_0 : decode cX0_checkDay 0 = .ok (.iload_n 0, 1) := by decide +kernel
theorem dX0_checkDay_1 : decode cX0_checkDay 1 = .ok (.ldc 142, 2) := by decide +kernel
theorem dX0_checkDay_3 : decode cX0_checkDay 3 = .ok (.ldc 143, 2) := by decide +kernel
theorem dX0_checkDay_5 : decode cX0_checkDay 5 = .ok (.invokestatic 41, 3) := by decide +kernel
theorem dX0_checkDay_8 : decode cX0_checkDay 8 = .ok (.invokestatic 45, 3) := by decide +kernel
theorem dX0_checkDay_11 : decode cX0_checkDay 11 = .ok (.return_, 1) := by decide +kernel
set_option maxRecDepth 20000 in
theorem ggX0_checkYear_X0_isWithin : GoodIn wsX0_checkYear wsX0_isWithin := goodIn_r _ [4] (by decide +kernel) (by decide +kernel)
set_option maxRecDepth 20000 in
theorem gX0_checkYear_X0_isWithin : GoodIn wsX0_checkYear (va_wsS RX0 41 yX0_isWithin wsX0_isWithin) := goodIn_app (goodIn_of _ (by decide +kernel)) ggX0_checkYear_X0_isWithin
set_option maxRecDepth 20000 in
theorem ggX0_checkYear_X0_checkArgument : GoodIn wsX0_checkYear wsX0_checkArgument := goodIn_ca (goodIn_r _ [7, 8, 9] (by decide +kernel) (by decide +kernel)) (goodIn_sub (fun _ h => List.mem_cons_of_mem _ (List.mem_append_right _ h)) (by decide +kernel))
set_option maxRecDepth 20000 in
theorem gX0_checkYear_X0_checkArgument : GoodIn wsX0_checkYear (va_wsS RX0 45 yX0_checkArgument wsX0_checkArgument) := goodIn_app (goodIn_of _ (by decide +kernel)) ggX0_checkYear_X0_checkArgument
theorem dX0_checkYear_0 : decode cX0_checkYear 0 = .ok (.iload_n 0, 1) := by decide +kernel
theorem dX0_checkYear_1 : decode cX0_checkYear 1 = .ok (.sipush (-10000), 3) := by decide +kernel
theorem dX0_checkYear_4 : decode cX0_checkYear 4 = .ok (.sipush 10000, 3) := by decide +kernel
theorem dX0_checkYear_7 : decode cX0_checkYear 7 = .ok (.invokestatic 41, 3) := by decide +kernel
theorem dX0_checkYear_10 : decode cX0_checkYear 10 = .ok (.invokestatic 45, 3) := by decide +kernel
theorem dX0_checkYear_13 : decode cX0_checkYear 13 = .ok (.return_, 1) := by decide +kernel
set_option maxRecDepth 20000 in
theorem ggX0_checkMarket_X0_isWithin : GoodIn wsX0_checkMarket wsX0_isWithin := goodIn_r _ [7] (by decide +kernel) (by decide +kernel)
set_option maxRecDepth 20000 in
theorem gX0_checkMarket_X0_isWithin : GoodIn wsX0_checkMarket (va_wsS RX0 41 yX0_isWithin wsX0_isWithin) := goodIn_app (goodIn_of _ (by decide +kernel)) ggX0_checkMarket_X0_isWithin
theorem dX0_checkMarket_0 : decode cX0_checkMarket 0 = .ok (.iload_n 1, 1) := by decide +kernel
theorem dX0_checkMarket_1 : decode cX0_checkMarket 1 = .ok (.iconst 0, 1) := by decide +kernel
theorem dX0_checkMarket_2 : decode cX0_checkMarket 2 = .ok (.aload_n 0, 1) := by decide +kernel
theorem dX0_checkMarket_3 : decode cX0_checkMarket 3 = .ok (.getfield 16, 3) := by decide +kernel
theorem dX0_checkMarket_6 : decode cX0_checkMarket 6 = .ok (.iconst 1, 1) := by decide +kernel
theorem dX0_checkMarket_7 : decode cX0_checkMarket 7 = .ok (.isub, 1) := by decide +kernel
theorem dX0_checkMarket_8 : decode cX0_checkMarket 8 = .ok (.invokestatic 41, 3) := by decide +kernel
theorem dX0_checkMarket_11 : decode cX0_checkMarket 11 = .ok (.ifCond .ne 13, 3) := by decide +kernel
theorem dX0_checkMarket_14 : decode cX0_checkMarket 14 = .ok (.new 144, 3) := by decide +kernel
theorem dX0_checkMarket_17 : decode cX0_checkMarket 17 = .ok (.dup, 1) := by decide +kernel
theorem dX0_checkMarket_18 : decode cX0_checkMarket 18 = .ok (.ldc 146, 2) := by decide +kernel
theorem dX0_checkMarket_20 : decode cX0_checkMarket 20 = .ok (.invokespecial 148, 3) := by decide +kernel
theorem dX0_checkMarket_23 : decode cX0_checkMarket 23 = .ok (.athrow, 1) := by decide +kernel
theorem dX0_checkMarket_24 : decode cX0_checkMarket 24 = .ok (.return_, 1) := by decide +kernel
theorem dX0_checkMarkets_0 : decode cX0_checkMarkets 0 = .ok (.iload_n 1, 1) := by decide +kernel
theorem dX0_checkMarkets_1 : decode cX0_checkMarkets 1 = .ok (.aload_n 0, 1) := by decide +kernel
theorem dX0_checkMarkets_2 : decode cX0_checkMarkets 2 = .ok (.getfield 16, 3) := by decide +kernel
theorem dX0_checkMarkets_5 : decode cX0_checkMarkets 5 = .ok (.iushr, 1) := by decide +kernel
theorem dX0_checkMarkets_6 : decode cX0_checkMarkets 6 = .ok (.ifCond .eq 13, 3) := by decide +kernel
theorem dX0_checkMarkets_9 : decode cX0_checkMarkets 9 = .ok (.new 144, 3) := by decide +kernel
theorem dX0_checkMarkets_12 : decode cX0_checkMarkets 12 = .ok (.dup, 1) := by decide +kernel
theorem dX0_checkMarkets_13 : decode cX0_checkMarkets 13 = .ok (.ldc 149, 2) := by decide +kernel
theorem dX0_checkMarkets_15 : decode cX0_checkMarkets 15 = .ok (.invokespecial 148, 3) := by decide +kernel
theorem dX0_checkMarkets_18 : decode cX0_checkMarkets 18 = .ok (.athrow, 1) := by decide +kernel
theorem dX0_checkMarkets_19 : decode cX0_checkMarkets 19 = .ok (.return_, 1) := by decide +kernel
set_option maxRecDepth 20000 in
theorem ggX0_checkMeetingSet_J6_bitCount_0f7a4 : GoodIn wsX0_checkMeetingSet wsJ6_bitCount_0f7a4 := goodIn_r _ [4, 5, 6, 7] (by decide +kernel) (by decide +kernel)
set_option maxRecDepth 20000 in
theorem gX0_checkMeetingSet_J6_bitCount_0f7a4 : GoodIn wsX0_checkMeetingSet (va_wsS RX0 112 yJ6_bitCount_0f7a4 wsJ6_bitCount_0f7a4) := goodIn_app (goodIn_of _ (by decide +kernel)) ggX0_checkMeetingSet_J6_bitCount_0f7a4
set_option maxRecDepth 20000 in
theorem ggX0_checkMeetingSet_X0_isWithin : GoodIn wsX0_checkMeetingSet wsX0_isWithin := goodIn_r _ [11] (by decide +kernel) (by decide +kernel)
set_option maxRecDepth 20000 in
theorem gX0_checkMeetingSet_X0_isWithin : GoodIn wsX0_checkMeetingSet (va_wsS RX0 41 yX0_isWithin wsX0_isWithin) := goodIn_app (goodIn_of _ (by decide +kernel)) ggX0_checkMeetingSet_X0_isWithin
set_option maxRecDepth 20000 in
theorem ggX0_checkMeetingSet_X0_checkArgument : GoodIn wsX0_checkMeetingSet wsX0_checkArgument := goodIn_ca (goodIn_r _ [14, 15, 16] (by decide +kernel) (by decide +kernel)) (goodIn_sub (fun _ h => List.mem_cons_of_mem _ (List.mem_append_left _ (List.mem_append_right _ h))) (by decide +kernel))
set_option maxRecDepth 20000 in
theorem gX0_checkMeetingSet_X0_checkArgument : GoodIn wsX0_checkMeetingSet (va_wsS RX0 45 yX0_checkArgument wsX0_checkArgument) := goodIn_app (goodIn_of _ (by decide +kernel)) ggX0_checkMeetingSet_X0_checkArgument
set_option maxRecDepth 20000 in
theorem ggX0_checkMeetingSet_X0_checkMarkets : GoodIn wsX0_checkMeetingSet wsX0_checkMarkets := goodIn_ca (goodIn_r _ [20, 21, 22, 23, 24, 25, 26, 27, 28, 29, 30, 31, 32, 33] (by decide +kernel) (by decide +kernel)) (goodIn_sub (fun _ h => List.mem_cons_of_mem _ (List.mem_append_right _ h)) (by decide +kernel))
set_option maxRecDepth 20000 in
theorem gX0_checkMeetingSet_X0_checkMarkets : GoodIn wsX0_checkMeetingSet (wsV RX0 109 RX0 yX0_checkMarkets wsX0_checkMarkets) := goodIn_app (goodIn_of _ (by decide +kernel)) ggX0_checkMeetingSet_X0_checkMarkets
theorem dX0_checkMeetingSet_0 : decode cX0_checkMeetingSet 0 = .ok (.iload_n 1, 1) := by decide +kernel
theorem dX0_checkMeetingSet_1 : decode cX0_checkMeetingSet 1 = .ok (.invokestatic 112, 3) := by decide +kernel
theorem dX0_checkMeetingSet_4 : decode cX0_checkMeetingSet 4 = .ok (.iconst 1, 1) := by decide +kernel
theorem dX0_checkMeetingSet_5 : decode cX0_checkMeetingSet 5 = .ok (.iconst 5, 1) := by decide +kernel
theorem dX0_checkMeetingSet_6 : decode cX0_checkMeetingSet 6 = .ok (.invokestatic 41, 3) := by decide +kernel
theorem dX0_checkMeetingSet_9 : decode cX0_checkMeetingSet 9 = .ok (.invokestatic 45, 3) := by decide +kernel
theorem dX0_checkMeetingSet_12 : decode cX0_checkMeetingSet 12 = .ok (.aload_n 0, 1) := by decide +kernel
theorem dX0_checkMeetingSet_13 : decode cX0_checkMeetingSet 13 = .ok (.iload_n 1, 1) := by decide +kernel
theorem dX0_checkMeetingSet_14 : decode cX0_checkMeetingSet 14 = .ok (.invokevirtual 109, 3) := by decide +kernel
theorem dX0_checkMeetingSet_17 : decode cX0_checkMeetingSet 17 = .ok (.return_, 1) := by decide +kernel
theorem dX0_checkTheyMeet_0 : decode cX0_checkTheyMeet 0 = .ok (.lload_n 0, 1) := by decide +kernel
theorem dX0_checkTheyMeet_1 : decode cX0_checkTheyMeet 1 = .ok (.ldc2_w 96, 3) := by decide +kernel
theorem dX0_checkTheyMeet_4 : decode cX0_checkTheyMeet 4 = .ok (.lcmp, 1) := by decide +kernel
theorem dX0_checkTheyMeet_5 : decode cX0_checkTheyMeet 5 = .ok (.ifCond .ne 13, 3) := by decide +kernel
theorem dX0_checkTheyMeet_8 : decode cX0_checkTheyMeet 8 = .ok (.new 53, 3) := by decide +kernel
theorem dX0_checkTheyMeet_11 : decode cX0_checkTheyMeet 11 = .ok (.dup, 1) := by decide +kernel
theorem dX0_checkTheyMeet_12 : decode cX0_checkTheyMeet 12 = .ok (.ldc 151, 2) := by decide +kernel
theorem dX0_checkTheyMeet_14 : decode cX0_checkTheyMeet 14 = .ok (.invokespecial 57, 3) := by decide +kernel
theorem dX0_checkTheyMeet_17 : decode cX0_checkTheyMeet 17 = .ok (.athrow, 1) := by decide +kernel
theorem dX0_checkTheyMeet_18 : decode cX0_checkTheyMeet 18 = .ok (.return_, 1) := by decide +kernel
theorem dX0_isPlace_0 : decode cX0_isPlace 0 = .ok (.iload_n 1, 1) := by decide +kernel
theorem dX0_isPlace_1 : decode cX0_isPlace 1 = .ok (.ifCond .lt 25, 3) := by decide +kernel
theorem dX0_isPlace_4 : decode cX0_isPlace 4 = .ok (.iload_n 1, 1) := by decide +kernel
theorem dX0_isPlace_5 : decode cX0_isPlace 5 = .ok (.aload_n 0, 1) := by decide +kernel
theorem dX0_isPlace_6 : decode cX0_isPlace 6 = .ok (.getfield 9, 3) := by decide +kernel
theorem dX0_isPlace_9 : decode cX0_isPlace 9 = .ok (.arraylength, 1) := by decide +kernel
theorem dX0_isPlace_10 : decode cX0_isPlace 10 = .ok (.if_icmp .ge 16, 3) := by decide +kernel
theorem dX0_isPlace_13 : decode cX0_isPlace 13 = .ok (.iload_n 1, 1) := by decide +kernel
theorem dX0_isPlace_14 : decode cX0_isPlace 14 = .ok (.aload_n 0, 1) := by decide +kernel
theorem dX0_isPlace_15 : decode cX0_isPlace 15 = .ok (.getfield 13, 3) := by decide +kernel
theorem dX0_isPlace_18 : decode cX0_isPlace 18 = .ok (.arraylength, 1) := by decide +kernel
theorem dX0_isPlace_19 : decode cX0_isPlace 19 = .ok (.if_icmp .ge 7, 3) := by decide +kernel
theorem dX0_isPlace_22 : decode cX0_isPlace 22 = .ok (.iconst 1, 1) := by decide +kernel
theorem dX0_isPlace_23 : decode cX0_isPlace 23 = .ok (.goto 4, 3) := by decide +kernel
theorem dX0_isPlace_26 : decode cX0_isPlace 26 = .ok (.iconst 0, 1) := by decide +kernel
theorem dX0_isPlace_27 : decode cX0_isPlace 27 = .ok (.ireturn, 1) := by decide +kernel
set_option maxRecDepth 20000 in
theorem ggX0_lengthOf_X0_isPlace : GoodIn wsX0_lengthOf wsX0_isPlace := goodIn_r _ [6, 1, 7, 8, 9, 10, 11, 12, 13, 14, 15, 16, 17] (by decide +kernel) (by decide +kernel)
set_option maxRecDepth 20000 in
theorem gX0_lengthOf_X0_isPlace : GoodIn wsX0_lengthOf (wsV RX0 49 RX0 yX0_isPlace wsX0_isPlace) := goodIn_app (goodIn_of _ (by decide +kernel)) ggX0_lengthOf_X0_isPlace
theorem dX0_lengthOf_0 : decode cX0_lengthOf 0 = .ok (.aload_n 0, 1) := by decide +kernel
theorem dX0_lengthOf_1 : decode cX0_lengthOf 1 = .ok (.iload_n 1, 1) := by decide +kernel
theorem dX0_lengthOf_2 : decode cX0_lengthOf 2 = .ok (.invokevirtual 49, 3) := by decide +kernel
theorem dX0_lengthOf_5 : decode cX0_lengthOf 5 = .ok (.ifCond .eq 12, 3) := by decide +kernel
theorem dX0_lengthOf_8 : decode cX0_lengthOf 8 = .ok (.aload_n 0, 1) := by decide +kernel
theorem dX0_lengthOf_9 : decode cX0_lengthOf 9 = .ok (.getfield 9, 3) := by decide +kernel
theorem dX0_lengthOf_12 : decode cX0_lengthOf 12 = .ok (.iload_n 1, 1) := by decide +kernel
theorem dX0_lengthOf_13 : decode cX0_lengthOf 13 = .ok (.iaload, 1) := by decide +kernel
theorem dX0_lengthOf_14 : decode cX0_lengthOf 14 = .ok (.goto 4, 3) := by decide +kernel
theorem dX0_lengthOf_17 : decode cX0_lengthOf 17 = .ok (.iconst 1, 1) := by decide +kernel
theorem dX0_lengthOf_18 : decode cX0_lengthOf 18 = .ok (.ireturn, 1) := by decide +kernel
set_option maxRecDepth 20000 in
theorem ggX0_placeOf_X0_isPlace : GoodIn wsX0_placeOf wsX0_isPlace := goodIn_r _ [6, 7, 1, 8, 9, 10, 11, 12, 13, 14, 15, 16, 17] (by decide +kernel) (by decide +kernel)
set_option maxRecDepth 20000 in
theorem gX0_placeOf_X0_isPlace : GoodIn wsX0_placeOf (wsV RX0 49 RX0 yX0_isPlace wsX0_isPlace) := goodIn_app (goodIn_of _ (by decide +kernel)) ggX0_placeOf_X0_isPlace
theorem dX0_placeOf_0 : decode cX0_placeOf 0 = .ok (.aload_n 0, 1) := by decide +kernel
theorem dX0_placeOf_1 : decode cX0_placeOf 1 = .ok (.iload_n 1, 1) := by decide +kernel
theorem dX0_placeOf_2 : decode cX0_placeOf 2 = .ok (.invokevirtual 49, 3) := by decide +kernel
theorem dX0_placeOf_5 : decode cX0_placeOf 5 = .ok (.ifCond .eq 12, 3) := by decide +kernel
theorem dX0_placeOf_8 : decode cX0_placeOf 8 = .ok (.aload_n 0, 1) := by decide +kernel
theorem dX0_placeOf_9 : decode cX0_placeOf 9 = .ok (.getfield 13, 3) := by decide +kernel
theorem dX0_placeOf_12 : decode cX0_placeOf 12 = .ok (.iload_n 1, 1) := by decide +kernel
theorem dX0_placeOf_13 : decode cX0_placeOf 13 = .ok (.iaload, 1) := by decide +kernel
theorem dX0_placeOf_14 : decode cX0_placeOf 14 = .ok (.goto 4, 3) := by decide +kernel
theorem dX0_placeOf_17 : decode cX0_placeOf 17 = .ok (.iconst 0, 1) := by decide +kernel
theorem dX0_placeOf_18 : decode cX0_placeOf 18 = .ok (.ireturn, 1) := by decide +kernel
set_option maxRecDepth 20000 in
theorem ggX0_isOn_X0_lengthOf : GoodIn wsX0_isOn wsX0_lengthOf := goodIn_r _ [5, 6, 7, 8, 9, 4, 10, 11, 23, 24, 25, 26, 27, 28, 29, 30, 31, 32] (by decide +kernel) (by decide +kernel)
set_option maxRecDepth 20000 in
theorem gX0_isOn_X0_lengthOf : GoodIn wsX0_isOn (wsV RX0 68 RX0 yX0_lengthOf wsX0_lengthOf) := goodIn_app (goodIn_of _ (by decide +kernel)) ggX0_isOn_X0_lengthOf
set_option maxRecDepth 20000 in
theorem ggX0_isOn_X0_modulo : GoodIn wsX0_isOn wsX0_modulo := goodIn_r _ [14, 15, 16, 17, 18] (by decide +kernel) (by decide +kernel)
set_option maxRecDepth 20000 in
theorem gX0_isOn_X0_modulo : GoodIn wsX0_isOn (va_wsS RX0 71 yX0_modulo wsX0_modulo) := goodIn_app (goodIn_of _ (by decide +kernel)) ggX0_isOn_X0_modulo
set_option maxRecDepth 20000 in
theorem ggX0_isOn_X0_placeOf : GoodIn wsX0_isOn wsX0_placeOf := goodIn_r _ [22, 11, 7, 8, 9, 4, 10, 6, 23, 24, 25, 26, 27, 28, 29, 30, 31, 32] (by decide +kernel) (by decide +kernel)
set_option maxRecDepth 20000 in
theorem gX0_isOn_X0_placeOf : GoodIn wsX0_isOn (wsV RX0 64 RX0 yX0_placeOf wsX0_placeOf) := goodIn_app (goodIn_of _ (by decide +kernel)) ggX0_isOn_X0_placeOf
theorem dX0_isOn_0 : decode cX0_isOn 0 = .ok (.lload_n 2, 1) := by decide +kernel
theorem dX0_isOn_1 : decode cX0_isOn 1 = .ok (.aload_n 0, 1) := by decide +kernel
theorem dX0_isOn_2 : decode cX0_isOn 2 = .ok (.iload_n 1, 1) := by decide +kernel
theorem dX0_isOn_3 : decode cX0_isOn 3 = .ok (.invokevirtual 68, 3) := by decide +kernel
theorem dX0_isOn_6 : decode cX0_isOn 6 = .ok (.i2l, 1) := by decide +kernel
theorem dX0_isOn_7 : decode cX0_isOn 7 = .ok (.invokestatic 71, 3) := by decide +kernel
theorem dX0_isOn_10 : decode cX0_isOn 10 = .ok (.aload_n 0, 1) := by decide +kernel
theorem dX0_isOn_11 : decode cX0_isOn 11 = .ok (.iload_n 1, 1) := by decide +kernel
theorem dX0_isOn_12 : decode cX0_isOn 12 = .ok (.invokevirtual 64, 3) := by decide +kernel
theorem dX0_isOn_15 : decode cX0_isOn 15 = .ok (.i2l, 1) := by decide +kernel
theorem dX0_isOn_16 : decode cX0_isOn 16 = .ok (.lcmp, 1) := by decide +kernel
theorem dX0_isOn_17 : decode cX0_isOn 17 = .ok (.ifCond .ne 7, 3) := by decide +kernel
theorem dX0_isOn_20 : decode cX0_isOn 20 = .ok (.iconst 1, 1) := by decide +kernel
theorem dX0_isOn_21 : decode cX0_isOn 21 = .ok (.goto 4, 3) := by decide +kernel
theorem dX0_isOn_24 : decode cX0_isOn 24 = .ok (.iconst 0, 1) := by decide +kernel
theorem dX0_isOn_25 : decode cX0_isOn 25 = .ok (.ireturn, 1) := by decide +kernel
set_option maxRecDepth 20000 in
theorem ggX0_setOn_X0_isOn : GoodIn wsX0_setOn wsX0_isOn := goodIn_r _ [6, 7, 8, 9, 5, 10, 11, 12, 13, 14, 15, 16, 17, 18, 19, 20, 21, 22, 23, 24, 25, 26, 27, 28, 29, 30, 31, 32, 33, 34, 35, 36, 37] (by decide +kernel) (by decide +kernel)
set_option maxRecDepth 20000 in
theorem gX0_setOn_X0_isOn : GoodIn wsX0_setOn (wsV RX0 78 RX0 yX0_isOn wsX0_isOn) := goodIn_app (goodIn_of _ (by decide +kernel)) ggX0_setOn_X0_isOn
theorem dX0_setOn_0 : decode cX0_setOn 0 = .ok (.iconst 0, 1) := by decide +kernel
theorem dX0_setOn_1 : decode cX0_setOn 1 = .ok (.istore_n 2, 1) := by decide +kernel
theorem dX0_setOn_2 : decode cX0_setOn 2 = .ok (.iconst 0, 1) := by decide +kernel
theorem dX0_setOn_3 : decode cX0_setOn 3 = .ok (.istore_n 3, 1) := by decide +kernel
theorem dX0_setOn_4 : decode cX0_setOn 4 = .ok (.iload_n 3, 1) := by decide +kernel
theorem dX0_setOn_5 : decode cX0_setOn 5 = .ok (.aload_n 0, 1) := by decide +kernel
theorem dX0_setOn_6 : decode cX0_setOn 6 = .ok (.getfield 16, 3) := by decide +kernel
theorem dX0_setOn_9 : decode cX0_setOn 9 = .ok (.if_icmp .ge 25, 3) := by decide +kernel
theorem dX0_setOn_12 : decode cX0_setOn 12 = .ok (.aload_n 0, 1) := by decide +kernel
theorem dX0_setOn_13 : decode cX0_setOn 13 = .ok (.iload_n 3, 1) := by decide +kernel
theorem dX0_setOn_14 : decode cX0_setOn 14 = .ok (.iload_n 1, 1) := by decide +kernel
theorem dX0_setOn_15 : decode cX0_setOn 15 = .ok (.i2l, 1) := by decide +kernel
theorem dX0_setOn_16 : decode cX0_setOn 16 = .ok (.invokevirtual 78, 3) := by decide +kernel
theorem dX0_setOn_19 : decode cX0_setOn 19 = .ok (.ifCond .eq 9, 3) := by decide +kernel
theorem dX0_setOn_22 : decode cX0_setOn 22 = .ok (.iload_n 2, 1) := by decide +kernel
theorem dX0_setOn_23 : decode cX0_setOn 23 = .ok (.iconst 1, 1) := by decide +kernel
theorem dX0_setOn_24 : decode cX0_setOn 24 = .ok (.iload_n 3, 1) := by decide +kernel
theorem dX0_setOn_25 : decode cX0_setOn 25 = .ok (.ishl, 1) := by decide +kernel
theorem dX0_setOn_26 : decode cX0_setOn 26 = .ok (.ior, 1) := by decide +kernel
theorem dX0_setOn_27 : decode cX0_setOn 27 = .ok (.istore_n 2, 1) := by decide +kernel
theorem dX0_setOn_28 : decode cX0_setOn 28 = .ok (.iinc 3 1, 3) := by decide +kernel
theorem dX0_setOn_31 : decode cX0_setOn 31 = .ok (.goto (-27), 3) := by decide +kernel
theorem dX0_setOn_34 : decode cX0_setOn 34 = .ok (.iload_n 2, 1) := by decide +kernel
theorem dX0_setOn_35 : decode cX0_setOn 35 = .ok (.ireturn, 1) := by decide +kernel
set_option maxRecDepth 20000 in
theorem ggX0_countHeld_X0_lengthOf : GoodIn wsX0_countHeld wsX0_lengthOf := goodIn_r _ [5, 6, 7, 8, 9, 4, 10, 11, 23, 24, 25, 26, 27, 28, 29, 30, 31, 32] (by decide +kernel) (by decide +kernel)
set_option maxRecDepth 20000 in
theorem gX0_countHeld_X0_lengthOf : GoodIn wsX0_countHeld (wsV RX0 68 RX0 yX0_lengthOf wsX0_lengthOf) := goodIn_app (goodIn_of _ (by decide +kernel)) ggX0_countHeld_X0_lengthOf
set_option maxRecDepth 20000 in
theorem ggX0_countHeld_X0_placeOf : GoodIn wsX0_countHeld wsX0_placeOf := goodIn_r _ [15, 11, 7, 8, 9, 4, 10, 6, 23, 24, 25, 26, 27, 28, 29, 30, 31, 32] (by decide +kernel) (by decide +kernel)
set_option maxRecDepth 20000 in
theorem gX0_countHeld_X0_placeOf : GoodIn wsX0_countHeld (wsV RX0 64 RX0 yX0_placeOf wsX0_placeOf) := goodIn_app (goodIn_of _ (by decide +kernel)) ggX0_countHeld_X0_placeOf
set_option maxRecDepth 20000 in
theorem ggX0_countHeld_X0_divide : GoodIn wsX0_countHeld wsX0_divide := goodIn_r _ [18, 19, 20, 21, 22] (by decide +kernel) (by decide +kernel)
set_option maxRecDepth 20000 in
theorem gX0_countHeld_X0_divide : GoodIn wsX0_countHeld (va_wsS RX0 120 yX0_divide wsX0_divide) := goodIn_app (goodIn_of _ (by decide +kernel)) ggX0_countHeld_X0_divide
theorem dX0_countHeld_0 : decode cX0_countHeld 0 = .ok (.aload_n 0, 1) := by decide +kernel
theorem dX0_countHeld_1 : decode cX0_countHeld 1 = .ok (.iload_n 1, 1) := by decide +kernel
theorem dX0_countHeld_2 : decode cX0_countHeld 2 = .ok (.invokevirtual 68, 3) := by decide +kernel
theorem dX0_countHeld_5 : decode cX0_countHeld 5 = .ok (.istore 4, 2) := by decide +kernel
theorem dX0_countHeld_7 : decode cX0_countHeld 7 = .ok (.aload_n 0, 1) := by decide +kernel
theorem dX0_countHeld_8 : decode cX0_countHeld 8 = .ok (.iload_n 1, 1) := by decide +kernel
theorem dX0_countHeld_9 : decode cX0_countHeld 9 = .ok (.invokevirtual 64, 3) := by decide +kernel
theorem dX0_countHeld_12 : decode cX0_countHeld 12 = .ok (.istore 5, 2) := by decide +kernel
theorem dX0_countHeld_14 : decode cX0_countHeld 14 = .ok (.iload_n 3, 1) := by decide +kernel
theorem dX0_countHeld_15 : decode cX0_countHeld 15 = .ok (.iload 5, 2) := by decide +kernel
theorem dX0_countHeld_17 : decode cX0_countHeld 17 = .ok (.isub, 1) := by decide +kernel
theorem dX0_countHeld_18 : decode cX0_countHeld 18 = .ok (.i2l, 1) := by decide +kernel
theorem dX0_countHeld_19 : decode cX0_countHeld 19 = .ok (.iload 4, 2) := by decide +kernel
theorem dX0_countHeld_21 : decode cX0_countHeld 21 = .ok (.i2l, 1) := by decide +kernel
theorem dX0_countHeld_22 : decode cX0_countHeld 22 = .ok (.invokestatic 120, 3) := by decide +kernel
theorem dX0_countHeld_25 : decode cX0_countHeld 25 = .ok (.iload_n 2, 1) := by decide +kernel
theorem dX0_countHeld_26 : decode cX0_countHeld 26 = .ok (.iconst 1, 1) := by decide +kernel
theorem dX0_countHeld_27 : decode cX0_countHeld 27 = .ok (.isub, 1) := by decide +kernel
theorem dX0_countHeld_28 : decode cX0_countHeld 28 = .ok (.iload 5, 2) := by decide +kernel
theorem dX0_countHeld_30 : decode cX0_countHeld 30 = .ok (.isub, 1) := by decide +kernel
theorem dX0_countHeld_31 : decode cX0_countHeld 31 = .ok (.i2l, 1) := by decide +kernel
theorem dX0_countHeld_32 : decode cX0_countHeld 32 = .ok (.iload 4, 2) := by decide +kernel
theorem dX0_countHeld_34 : decode cX0_countHeld 34 = .ok (.i2l, 1) := by decide +kernel
theorem dX0_countHeld_35 : decode cX0_countHeld 35 = .ok (.invokestatic 120, 3) := by decide +kernel
theorem dX0_countHeld_38 : decode cX0_countHeld 38 = .ok (.lsub, 1) := by decide +kernel
theorem dX0_countHeld_39 : decode cX0_countHeld 39 = .ok (.l2i, 1) := by decide +kernel
theorem dX0_countHeld_40 : decode cX0_countHeld 40 = .ok (.ireturn, 1) := by decide +kernel
set_option maxRecDepth 20000 in
theorem ggX0_firstMeeting_X0_firstHeldInSteps : GoodIn wsX0_firstMeeting wsX0_firstHeldInSteps := goodIn_r _ [7, 2, 8, 9, 10, 6, 11, 12, 13, 14, 15, 16, 17, 18, 19, 20, 21, 22, 23, 24, 25, 26, 27, 28, 29, 30, 31, 32, 36, 37, 38, 39, 40, 41, 42, 43, 44, 45] (by decide +kernel) (by decide +kernel)
set_option maxRecDepth 20000 in
theorem gX0_firstMeeting_X0_firstHeldInSteps : GoodIn wsX0_firstMeeting (wsV RX0 153 RX0 yX0_firstHeldInSteps wsX0_firstHeldInSteps) := goodIn_app (goodIn_of _ (by decide +kernel)) ggX0_firstMeeting_X0_firstHeldInSteps
set_option maxRecDepth 20000 in
theorem ggX0_firstMeeting_X0_lengthOf : GoodIn wsX0_firstMeeting wsX0_lengthOf := goodIn_r _ [11, 12, 13, 14, 15, 6, 16, 17, 36, 37, 38, 39, 40, 41, 42, 43, 44, 45] (by decide +kernel) (by decide +kernel)
set_option maxRecDepth 20000 in
theorem gX0_firstMeeting_X0_lengthOf : GoodIn wsX0_firstMeeting (wsV RX0 68 RX0 yX0_lengthOf wsX0_lengthOf) := goodIn_app (goodIn_of _ (by decide +kernel)) ggX0_firstMeeting_X0_lengthOf
set_option maxRecDepth 20000 in
theorem ggX0_firstMeeting_X0_commonMultiple : GoodIn wsX0_firstMeeting wsX0_commonMultiple := goodIn_r _ [35, 22, 23, 6, 24, 25, 26, 27, 28] (by decide +kernel) (by decide +kernel)
set_option maxRecDepth 20000 in
theorem gX0_firstMeeting_X0_commonMultiple : GoodIn wsX0_firstMeeting (va_wsS RX0 157 yX0_commonMultiple wsX0_commonMultiple) := goodIn_app (goodIn_of _ (by decide +kernel)) ggX0_firstMeeting_X0_commonMultiple
theorem dX0_firstMeeting_0 : decode cX0_firstMeeting 0 = .ok (.lconst 0, 1) := by decide +kernel
theorem dX0_firstMeeting_1 : decode cX0_firstMeeting 1 = .ok (.lstore_n 2, 1) := by decide +kernel
theorem dX0_firstMeeting_2 : decode cX0_firstMeeting 2 = .ok (.lconst 1, 1) := by decide +kernel
theorem dX0_firstMeeting_3 : decode cX0_firstMeeting 3 = .ok (.lstore 4, 2) := by decide +kernel
theorem dX0_firstMeeting_5 : decode cX0_firstMeeting 5 = .ok (.iconst 0, 1) := by decide +kernel
theorem dX0_firstMeeting_6 : decode cX0_firstMeeting 6 = .ok (.istore 6, 2) := by decide +kernel
theorem dX0_firstMeeting_8 : decode cX0_firstMeeting 8 = .ok (.iload 6, 2) := by decide +kernel
theorem dX0_firstMeeting_10 : decode cX0_firstMeeting 10 = .ok (.aload_n 0, 1) := by decide +kernel
theorem dX0_firstMeeting_11 : decode cX0_firstMeeting 11 = .ok (.getfield 16, 3) := by decide +kernel
theorem dX0_firstMeeting_14 : decode cX0_firstMeeting 14 = .ok (.if_icmp .ge 54, 3) := by decide +kernel
theorem dX0_firstMeeting_17 : decode cX0_firstMeeting 17 = .ok (.iload_n 1, 1) := by decide +kernel
theorem dX0_firstMeeting_18 : decode cX0_firstMeeting 18 = .ok (.iload 6, 2) := by decide +kernel
theorem dX0_firstMeeting_20 : decode cX0_firstMeeting 20 = .ok (.iushr, 1) := by decide +kernel
theorem dX0_firstMeeting_21 : decode cX0_firstMeeting 21 = .ok (.iconst 1, 1) := by decide +kernel
theorem dX0_firstMeeting_22 : decode cX0_firstMeeting 22 = .ok (.iand, 1) := by decide +kernel
theorem dX0_firstMeeting_23 : decode cX0_firstMeeting 23 = .ok (.iconst 1, 1) := by decide +kernel
theorem dX0_firstMeeting_24 : decode cX0_firstMeeting 24 = .ok (.if_icmp .ne 38, 3) := by decide +kernel
theorem dX0_firstMeeting_27 : decode cX0_firstMeeting 27 = .ok (.aload_n 0, 1) := by decide +kernel
theorem dX0_firstMeeting_28 : decode cX0_firstMeeting 28 = .ok (.iload 6, 2) := by decide +kernel
theorem dX0_firstMeeting_30 : decode cX0_firstMeeting 30 = .ok (.lload_n 2, 1) := by decide +kernel
theorem dX0_firstMeeting_31 : decode cX0_firstMeeting 31 = .ok (.lload 4, 2) := by decide +kernel
theorem dX0_firstMeeting_33 : decode cX0_firstMeeting 33 = .ok (.invokevirtual 153, 3) := by decide +kernel
theorem dX0_firstMeeting_36 : decode cX0_firstMeeting 36 = .ok (.lstore_n 2, 1) := by decide +kernel
theorem dX0_firstMeeting_37 : decode cX0_firstMeeting 37 = .ok (.lload_n 2, 1) := by decide +kernel
theorem dX0_firstMeeting_38 : decode cX0_firstMeeting 38 = .ok (.ldc2_w 96, 3) := by decide +kernel
theorem dX0_firstMeeting_41 : decode cX0_firstMeeting 41 = .ok (.lcmp, 1) := by decide +kernel
theorem dX0_firstMeeting_42 : decode cX0_firstMeeting 42 = .ok (.ifCond .ne 7, 3) := by decide +kernel
theorem dX0_firstMeeting_45 : decode cX0_firstMeeting 45 = .ok (.ldc2_w 96, 3) := by decide +kernel
theorem dX0_firstMeeting_48 : decode cX0_firstMeeting 48 = .ok (.lreturn, 1) := by decide +kernel
theorem dX0_firstMeeting_49 : decode cX0_firstMeeting 49 = .ok (.lload 4, 2) := by decide +kernel
theorem dX0_firstMeeting_51 : decode cX0_firstMeeting 51 = .ok (.aload_n 0, 1) := by decide +kernel
theorem dX0_firstMeeting_52 : decode cX0_firstMeeting 52 = .ok (.iload 6, 2) := by decide +kernel
theorem dX0_firstMeeting_54 : decode cX0_firstMeeting 54 = .ok (.invokevirtual 68, 3) := by decide +kernel
theorem dX0_firstMeeting_57 : decode cX0_firstMeeting 57 = .ok (.invokestatic 157, 3) := by decide +kernel
theorem dX0_firstMeeting_60 : decode cX0_firstMeeting 60 = .ok (.lstore 4, 2) := by decide +kernel
theorem dX0_firstMeeting_62 : decode cX0_firstMeeting 62 = .ok (.iinc 6 1, 3) := by decide +kernel
theorem dX0_firstMeeting_65 : decode cX0_firstMeeting 65 = .ok (.goto (-57), 3) := by decide +kernel
theorem dX0_firstMeeting_68 : decode cX0_firstMeeting 68 = .ok (.lload_n 2, 1) := by decide +kernel
theorem dX0_firstMeeting_69 : decode cX0_firstMeeting 69 = .ok (.lreturn, 1) := by decide +kernel
set_option maxRecDepth 20000 in
theorem ggX0_firstHeldInSteps_X0_lengthOf : GoodIn wsX0_firstHeldInSteps wsX0_lengthOf := goodIn_r _ [6, 7, 8, 9, 10, 5, 11, 12, 28, 29, 30, 31, 32, 33, 34, 35, 36, 37] (by decide +kernel) (by decide +kernel)
set_option maxRecDepth 20000 in
theorem gX0_firstHeldInSteps_X0_lengthOf : GoodIn wsX0_firstHeldInSteps (wsV RX0 68 RX0 yX0_lengthOf wsX0_lengthOf) := goodIn_app (goodIn_of _ (by decide +kernel)) ggX0_firstHeldInSteps_X0_lengthOf
set_option maxRecDepth 20000 in
theorem ggX0_firstHeldInSteps_X0_isOn : GoodIn wsX0_firstHeldInSteps wsX0_isOn := goodIn_r _ [16, 2, 3, 4, 5, 6, 7, 8, 9, 10, 11, 12, 17, 18, 19, 20, 21, 22, 23, 24, 25, 26, 27, 28, 29, 30, 31, 32, 33, 34, 35, 36, 37] (by decide +kernel) (by decide +kernel)
set_option maxRecDepth 20000 in
theorem gX0_firstHeldInSteps_X0_isOn : GoodIn wsX0_firstHeldInSteps (wsV RX0 78 RX0 yX0_isOn wsX0_isOn) := goodIn_app (goodIn_of _ (by decide +kernel)) ggX0_firstHeldInSteps_X0_isOn
theorem dX0_firstHeldInSteps_0 : decode cX0_firstHeldInSteps 0 = .ok (.aload_n 0, 1) := by decide +kernel
theorem dX0_firstHeldInSteps_1 : decode cX0_firstHeldInSteps 1 = .ok (.iload_n 1, 1) := by decide +kernel
theorem dX0_firstHeldInSteps_2 : decode cX0_firstHeldInSteps 2 = .ok (.invokevirtual 68, 3) := by decide +kernel
theorem dX0_firstHeldInSteps_5 : decode cX0_firstHeldInSteps 5 = .ok (.istore 6, 2) := by decide +kernel
theorem dX0_firstHeldInSteps_7 : decode cX0_firstHeldInSteps 7 = .ok (.iconst 0, 1) := by decide +kernel
theorem dX0_firstHeldInSteps_8 : decode cX0_firstHeldInSteps 8 = .ok (.istore 7, 2) := by decide +kernel
theorem dX0_firstHeldInSteps_10 : decode cX0_firstHeldInSteps 10 = .ok (.iload 7, 2) := by decide +kernel
theorem dX0_firstHeldInSteps_12 : decode cX0_firstHeldInSteps 12 = .ok (.iload 6, 2) := by decide +kernel
theorem dX0_firstHeldInSteps_14 : decode cX0_firstHeldInSteps 14 = .ok (.if_icmp .ge 32, 3) := by decide +kernel
theorem dX0_firstHeldInSteps_17 : decode cX0_firstHeldInSteps 17 = .ok (.lload_n 2, 1) := by decide +kernel
theorem dX0_firstHeldInSteps_18 : decode cX0_firstHeldInSteps 18 = .ok (.iload 7, 2) := by decide +kernel
theorem dX0_firstHeldInSteps_20 : decode cX0_firstHeldInSteps 20 = .ok (.i2l, 1) := by decide +kernel
theorem dX0_firstHeldInSteps_21 : decode cX0_firstHeldInSteps 21 = .ok (.lload 4, 2) := by decide +kernel
theorem dX0_firstHeldInSteps_23 : decode cX0_firstHeldInSteps 23 = .ok (.lmul, 1) := by decide +kernel
theorem dX0_firstHeldInSteps_24 : decode cX0_firstHeldInSteps 24 = .ok (.ladd, 1) := by decide +kernel
theorem dX0_firstHeldInSteps_25 : decode cX0_firstHeldInSteps 25 = .ok (.lstore 8, 2) := by decide +kernel
theorem dX0_firstHeldInSteps_27 : decode cX0_firstHeldInSteps 27 = .ok (.aload_n 0, 1) := by decide +kernel
theorem dX0_firstHeldInSteps_28 : decode cX0_firstHeldInSteps 28 = .ok (.iload_n 1, 1) := by decide +kernel
theorem dX0_firstHeldInSteps_29 : decode cX0_firstHeldInSteps 29 = .ok (.lload 8, 2) := by decide +kernel
theorem dX0_firstHeldInSteps_31 : decode cX0_firstHeldInSteps 31 = .ok (.invokevirtual 78, 3) := by decide +kernel
theorem dX0_firstHeldInSteps_34 : decode cX0_firstHeldInSteps 34 = .ok (.ifCond .eq 6, 3) := by decide +kernel
theorem dX0_firstHeldInSteps_37 : decode cX0_firstHeldInSteps 37 = .ok (.lload 8, 2) := by decide +kernel
theorem dX0_firstHeldInSteps_39 : decode cX0_firstHeldInSteps 39 = .ok (.lreturn, 1) := by decide +kernel
theorem dX0_firstHeldInSteps_40 : decode cX0_firstHeldInSteps 40 = .ok (.iinc 7 1, 3) := by decide +kernel
theorem dX0_firstHeldInSteps_43 : decode cX0_firstHeldInSteps 43 = .ok (.goto (-33), 3) := by decide +kernel
theorem dX0_firstHeldInSteps_46 : decode cX0_firstHeldInSteps 46 = .ok (.ldc2_w 96, 3) := by decide +kernel
theorem dX0_firstHeldInSteps_49 : decode cX0_firstHeldInSteps 49 = .ok (.lreturn, 1) := by decide +kernel
set_option maxRecDepth 20000 in
theorem ggX0_commonLength_X0_lengthOf : GoodIn wsX0_commonLength wsX0_lengthOf := goodIn_r _ [6, 7, 8, 9, 10, 5, 11, 12, 23, 24, 25, 26, 27, 28, 29, 30, 31, 32] (by decide +kernel) (by decide +kernel)
set_option maxRecDepth 20000 in
theorem gX0_commonLength_X0_lengthOf : GoodIn wsX0_commonLength (wsV RX0 68 RX0 yX0_lengthOf wsX0_lengthOf) := goodIn_app (goodIn_of _ (by decide +kernel)) ggX0_commonLength_X0_lengthOf
set_option maxRecDepth 20000 in
theorem ggX0_commonLength_X0_commonMultiple : GoodIn wsX0_commonLength wsX0_commonMultiple := goodIn_r _ [15, 16, 17, 5, 18, 19, 20, 21, 22] (by decide +kernel) (by decide +kernel)
set_option maxRecDepth 20000 in
theorem gX0_commonLength_X0_commonMultiple : GoodIn wsX0_commonLength (va_wsS RX0 157 yX0_commonMultiple wsX0_commonMultiple) := goodIn_app (goodIn_of _ (by decide +kernel)) ggX0_commonLength_X0_commonMultiple
theorem dX0_commonLength_0 : decode cX0_commonLength 0 = .ok (.lconst 1, 1) := by decide +kernel
theorem dX0_commonLength_1 : decode cX0_commonLength 1 = .ok (.lstore_n 2, 1) := by decide +kernel
theorem dX0_commonLength_2 : decode cX0_commonLength 2 = .ok (.iconst 0, 1) := by decide +kernel
theorem dX0_commonLength_3 : decode cX0_commonLength 3 = .ok (.istore 4, 2) := by decide +kernel
theorem dX0_commonLength_5 : decode cX0_commonLength 5 = .ok (.iload 4, 2) := by decide +kernel
theorem dX0_commonLength_7 : decode cX0_commonLength 7 = .ok (.aload_n 0, 1) := by decide +kernel
theorem dX0_commonLength_8 : decode cX0_commonLength 8 = .ok (.getfield 16, 3) := by decide +kernel
theorem dX0_commonLength_11 : decode cX0_commonLength 11 = .ok (.if_icmp .ge 30, 3) := by decide +kernel
theorem dX0_commonLength_14 : decode cX0_commonLength 14 = .ok (.iload_n 1, 1) := by decide +kernel
theorem dX0_commonLength_15 : decode cX0_commonLength 15 = .ok (.iload 4, 2) := by decide +kernel
theorem dX0_commonLength_17 : decode cX0_commonLength 17 = .ok (.iushr, 1) := by decide +kernel
theorem dX0_commonLength_18 : decode cX0_commonLength 18 = .ok (.iconst 1, 1) := by decide +kernel
theorem dX0_commonLength_19 : decode cX0_commonLength 19 = .ok (.iand, 1) := by decide +kernel
theorem dX0_commonLength_20 : decode cX0_commonLength 20 = .ok (.iconst 1, 1) := by decide +kernel
theorem dX0_commonLength_21 : decode cX0_commonLength 21 = .ok (.if_icmp .ne 14, 3) := by decide +kernel
theorem dX0_commonLength_24 : decode cX0_commonLength 24 = .ok (.lload_n 2, 1) := by decide +kernel
theorem dX0_commonLength_25 : decode cX0_commonLength 25 = .ok (.aload_n 0, 1) := by decide +kernel
theorem dX0_commonLength_26 : decode cX0_commonLength 26 = .ok (.iload 4, 2) := by decide +kernel
theorem dX0_commonLength_28 : decode cX0_commonLength 28 = .ok (.invokevirtual 68, 3) := by decide +kernel
theorem dX0_commonLength_31 : decode cX0_commonLength 31 = .ok (.invokestatic 157, 3) := by decide +kernel
theorem dX0_commonLength_34 : decode cX0_commonLength 34 = .ok (.lstore_n 2, 1) := by decide +kernel
theorem dX0_commonLength_35 : decode cX0_commonLength 35 = .ok (.iinc 4 1, 3) := by decide +kernel
theorem dX0_commonLength_38 : decode cX0_commonLength 38 = .ok (.goto (-33), 3) := by decide +kernel
theorem dX0_commonLength_41 : decode cX0_commonLength 41 = .ok (.lload_n 2, 1) := by decide +kernel
theorem dX0_commonLength_42 : decode cX0_commonLength 42 = .ok (.lreturn, 1) := by decide +kernel
set_option maxRecDepth 20000 in
theorem ggX0_commonMultiple_X0_modulo : GoodIn wsX0_commonMultiple wsX0_modulo := goodIn_r _ [4, 5, 6, 7, 8] (by decide +kernel) (by decide +kernel)
set_option maxRecDepth 20000 in
theorem gX0_commonMultiple_X0_modulo : GoodIn wsX0_commonMultiple (va_wsS RX0 71 yX0_modulo wsX0_modulo) := goodIn_app (goodIn_of _ (by decide +kernel)) ggX0_commonMultiple_X0_modulo
theorem dX0_commonMultiple_0 : decode cX0_commonMultiple 0 = .ok (.iconst 1, 1) := by decide +kernel
theorem dX0_commonMultiple_1 : decode cX0_commonMultiple 1 = .ok (.istore_n 3, 1) := by decide +kernel
theorem dX0_commonMultiple_2 : decode cX0_commonMultiple 2 = .ok (.iload_n 3, 1) := by decide +kernel
theorem dX0_commonMultiple_3 : decode cX0_commonMultiple 3 = .ok (.iload_n 2, 1) := by decide +kernel
theorem dX0_commonMultiple_4 : decode cX0_commonMultiple 4 = .ok (.if_icmp .ge 28, 3) := by decide +kernel
theorem dX0_commonMultiple_7 : decode cX0_commonMultiple 7 = .ok (.lload_n 0, 1) := by decide +kernel
theorem dX0_commonMultiple_8 : decode cX0_commonMultiple 8 = .ok (.iload_n 3, 1) := by decide +kernel
theorem dX0_commonMultiple_9 : decode cX0_commonMultiple 9 = .ok (.i2l, 1) := by decide +kernel
theorem dX0_commonMultiple_10 : decode cX0_commonMultiple 10 = .ok (.lmul, 1) := by decide +kernel
theorem dX0_commonMultiple_11 : decode cX0_commonMultiple 11 = .ok (.iload_n 2, 1) := by decide +kernel
theorem dX0_commonMultiple_12 : decode cX0_commonMultiple 12 = .ok (.i2l, 1) := by decide +kernel
theorem dX0_commonMultiple_13 : decode cX0_commonMultiple 13 = .ok (.invokestatic 71, 3) := by decide +kernel
theorem dX0_commonMultiple_16 : decode cX0_commonMultiple 16 = .ok (.lconst 0, 1) := by decide +kernel
theorem dX0_commonMultiple_17 : decode cX0_commonMultiple 17 = .ok (.lcmp, 1) := by decide +kernel
theorem dX0_commonMultiple_18 : decode cX0_commonMultiple 18 = .ok (.ifCond .ne 8, 3) := by decide +kernel
theorem dX0_commonMultiple_21 : decode cX0_commonMultiple 21 = .ok (.lload_n 0, 1) := by decide +kernel
theorem dX0_commonMultiple_22 : decode cX0_commonMultiple 22 = .ok (.iload_n 3, 1) := by decide +kernel
theorem dX0_commonMultiple_23 : decode cX0_commonMultiple 23 = .ok (.i2l, 1) := by decide +kernel
theorem dX0_commonMultiple_24 : decode cX0_commonMultiple 24 = .ok (.lmul, 1) := by decide +kernel
theorem dX0_commonMultiple_25 : decode cX0_commonMultiple 25 = .ok (.lreturn, 1) := by decide +kernel
theorem dX0_commonMultiple_26 : decode cX0_commonMultiple 26 = .ok (.iinc 3 1, 3) := by decide +kernel
theorem dX0_commonMultiple_29 : decode cX0_commonMultiple 29 = .ok (.goto (-27), 3) := by decide +kernel
theorem dX0_commonMultiple_32 : decode cX0_commonMultiple 32 = .ok (.lload_n 0, 1) := by decide +kernel
theorem dX0_commonMultiple_33 : decode cX0_commonMultiple 33 = .ok (.iload_n 2, 1) := by decide +kernel
theorem dX0_commonMultiple_34 : decode cX0_commonMultiple 34 = .ok (.i2l, 1) := by decide +kernel
theorem dX0_commonMultiple_35 : decode cX0_commonMultiple 35 = .ok (.lmul, 1) := by decide +kernel
theorem dX0_commonMultiple_36 : decode cX0_commonMultiple 36 = .ok (.lreturn, 1) := by decide +kernel
theorem dX0_moonParts_0 : decode cX0_moonParts 0 = .ok (.lload_n 1, 1) := by decide +kernel
theorem dX0_moonParts_1 : decode cX0_moonParts 1 = .ok (.aload_n 0, 1) := by decide +kernel
theorem dX0_moonParts_2 : decode cX0_moonParts 2 = .ok (.getfield 26, 3) := by decide +kernel
theorem dX0_moonParts_5 : decode cX0_moonParts 5 = .ok (.i2l, 1) := by decide +kernel
theorem dX0_moonParts_6 : decode cX0_moonParts 6 = .ok (.ladd, 1) := by decide +kernel
theorem dX0_moonParts_7 : decode cX0_moonParts 7 = .ok (.aload_n 0, 1) := by decide +kernel
theorem dX0_moonParts_8 : decode cX0_moonParts 8 = .ok (.getfield 23, 3) := by decide +kernel
theorem dX0_moonParts_11 : decode cX0_moonParts 11 = .ok (.i2l, 1) := by decide +kernel
theorem dX0_moonParts_12 : decode cX0_moonParts 12 = .ok (.lmul, 1) := by decide +kernel
theorem dX0_moonParts_13 : decode cX0_moonParts 13 = .ok (.lreturn, 1) := by decide +kernel
set_option maxRecDepth 20000 in
theorem ggX0_lunarDayOf_X0_moonParts : GoodIn wsX0_lunarDayOf wsX0_moonParts := goodIn_r _ [7, 8, 2, 22, 23, 24, 25, 26, 27, 28, 29, 30, 31] (by decide +kernel) (by decide +kernel)
set_option maxRecDepth 20000 in
theorem gX0_lunarDayOf_X0_moonParts : GoodIn wsX0_lunarDayOf (wsV RX0 117 RX0 yX0_moonParts wsX0_moonParts) := goodIn_app (goodIn_of _ (by decide +kernel)) ggX0_lunarDayOf_X0_moonParts
set_option maxRecDepth 20000 in
theorem ggX0_lunarDayOf_X0_modulo : GoodIn wsX0_lunarDayOf wsX0_modulo := goodIn_r _ [11, 12, 13, 14, 15] (by decide +kernel) (by decide +kernel)
set_option maxRecDepth 20000 in
theorem gX0_lunarDayOf_X0_modulo : GoodIn wsX0_lunarDayOf (va_wsS RX0 71 yX0_modulo wsX0_modulo) := goodIn_app (goodIn_of _ (by decide +kernel)) ggX0_lunarDayOf_X0_modulo
set_option maxRecDepth 20000 in
theorem ggX0_lunarDayOf_X0_divide : GoodIn wsX0_lunarDayOf wsX0_divide := goodIn_r _ [18, 19, 20, 14, 21] (by decide +kernel) (by decide +kernel)
set_option maxRecDepth 20000 in
theorem gX0_lunarDayOf_X0_divide : GoodIn wsX0_lunarDayOf (va_wsS RX0 120 yX0_divide wsX0_divide) := goodIn_app (goodIn_of _ (by decide +kernel)) ggX0_lunarDayOf_X0_divide
theorem dX0_lunarDayOf_0 : decode cX0_lunarDayOf 0 = .ok (.aload_n 0, 1) := by decide +kernel
theorem dX0_lunarDayOf_1 : decode cX0_lunarDayOf 1 = .ok (.lload_n 1, 1) := by decide +kernel
theorem dX0_lunarDayOf_2 : decode cX0_lunarDayOf 2 = .ok (.invokevirtual 117, 3) := by decide +kernel
theorem dX0_lunarDayOf_5 : decode cX0_lunarDayOf 5 = .ok (.aload_n 0, 1) := by decide +kernel
theorem dX0_lunarDayOf_6 : decode cX0_lunarDayOf 6 = .ok (.getfield 20, 3) := by decide +kernel
theorem dX0_lunarDayOf_9 : decode cX0_lunarDayOf 9 = .ok (.i2l, 1) := by decide +kernel
theorem dX0_lunarDayOf_10 : decode cX0_lunarDayOf 10 = .ok (.invokestatic 71, 3) := by decide +kernel
theorem dX0_lunarDayOf_13 : decode cX0_lunarDayOf 13 = .ok (.aload_n 0, 1) := by decide +kernel
theorem dX0_lunarDayOf_14 : decode cX0_lunarDayOf 14 = .ok (.getfield 23, 3) := by decide +kernel
theorem dX0_lunarDayOf_17 : decode cX0_lunarDayOf 17 = .ok (.i2l, 1) := by decide +kernel
theorem dX0_lunarDayOf_18 : decode cX0_lunarDayOf 18 = .ok (.invokestatic 120, 3) := by decide +kernel
theorem dX0_lunarDayOf_21 : decode cX0_lunarDayOf 21 = .ok (.lreturn, 1) := by decide +kernel
set_option maxRecDepth 20000 in
theorem ggX0_yearBegin_X0_divide : GoodIn wsX0_yearBegin wsX0_divide := goodIn_r _ [8, 9, 10, 11, 12] (by decide +kernel) (by decide +kernel)
set_option maxRecDepth 20000 in
theorem gX0_yearBegin_X0_divide : GoodIn wsX0_yearBegin (va_wsS RX0 120 yX0_divide wsX0_divide) := goodIn_app (goodIn_of _ (by decide +kernel)) ggX0_yearBegin_X0_divide
theorem dX0_yearBegin_0 : decode cX0_yearBegin 0 = .ok (.aload_n 0, 1) := by decide +kernel
theorem dX0_yearBegin_1 : decode cX0_yearBegin 1 = .ok (.getfield 29, 3) := by decide +kernel
theorem dX0_yearBegin_4 : decode cX0_yearBegin 4 = .ok (.iload_n 1, 1) := by decide +kernel
theorem dX0_yearBegin_5 : decode cX0_yearBegin 5 = .ok (.imul, 1) := by decide +kernel
theorem dX0_yearBegin_6 : decode cX0_yearBegin 6 = .ok (.aload_n 0, 1) := by decide +kernel
theorem dX0_yearBegin_7 : decode cX0_yearBegin 7 = .ok (.getfield 32, 3) := by decide +kernel
theorem dX0_yearBegin_10 : decode cX0_yearBegin 10 = .ok (.iload_n 1, 1) := by decide +kernel
theorem dX0_yearBegin_11 : decode cX0_yearBegin 11 = .ok (.imul, 1) := by decide +kernel
theorem dX0_yearBegin_12 : decode cX0_yearBegin 12 = .ok (.aload_n 0, 1) := by decide +kernel
theorem dX0_yearBegin_13 : decode cX0_yearBegin 13 = .ok (.getfield 35, 3) := by decide +kernel
theorem dX0_yearBegin_16 : decode cX0_yearBegin 16 = .ok (.iadd, 1) := by decide +kernel
theorem dX0_yearBegin_17 : decode cX0_yearBegin 17 = .ok (.i2l, 1) := by decide +kernel
theorem dX0_yearBegin_18 : decode cX0_yearBegin 18 = .ok (.aload_n 0, 1) := by decide +kernel
theorem dX0_yearBegin_19 : decode cX0_yearBegin 19 = .ok (.getfield 38, 3) := by decide +kernel
theorem dX0_yearBegin_22 : decode cX0_yearBegin 22 = .ok (.i2l, 1) := by decide +kernel
theorem dX0_yearBegin_23 : decode cX0_yearBegin 23 = .ok (.invokestatic 120, 3) := by decide +kernel
theorem dX0_yearBegin_26 : decode cX0_yearBegin 26 = .ok (.l2i, 1) := by decide +kernel
theorem dX0_yearBegin_27 : decode cX0_yearBegin 27 = .ok (.iadd, 1) := by decide +kernel
theorem dX0_yearBegin_28 : decode cX0_yearBegin 28 = .ok (.ireturn, 1) := by decide +kernel
set_option maxRecDepth 20000 in
theorem ggX0_yearOf_X0_divide : GoodIn wsX0_yearOf wsX0_divide := goodIn_r _ [8, 9, 10, 11, 12] (by decide +kernel) (by decide +kernel)
set_option maxRecDepth 20000 in
theorem gX0_yearOf_X0_divide : GoodIn wsX0_yearOf (va_wsS RX0 120 yX0_divide wsX0_divide) := goodIn_app (goodIn_of _ (by decide +kernel)) ggX0_yearOf_X0_divide
theorem dX0_yearOf_0 : decode cX0_yearOf 0 = .ok (.aload_n 0, 1) := by decide +kernel
theorem dX0_yearOf_1 : decode cX0_yearOf 1 = .ok (.getfield 38, 3) := by decide +kernel
theorem dX0_yearOf_4 : decode cX0_yearOf 4 = .ok (.i2l, 1) := by decide +kernel
theorem dX0_yearOf_5 : decode cX0_yearOf 5 = .ok (.iload_n 1, 1) := by decide +kernel
theorem dX0_yearOf_6 : decode cX0_yearOf 6 = .ok (.iconst 1, 1) := by decide +kernel
theorem dX0_yearOf_7 : decode cX0_yearOf 7 = .ok (.iadd, 1) := by decide +kernel
theorem dX0_yearOf_8 : decode cX0_yearOf 8 = .ok (.i2l, 1) := by decide +kernel
theorem dX0_yearOf_9 : decode cX0_yearOf 9 = .ok (.lmul, 1) := by decide +kernel
theorem dX0_yearOf_10 : decode cX0_yearOf 10 = .ok (.lconst 1, 1) := by decide +kernel
theorem dX0_yearOf_11 : decode cX0_yearOf 11 = .ok (.lsub, 1) := by decide +kernel
theorem dX0_yearOf_12 : decode cX0_yearOf 12 = .ok (.aload_n 0, 1) := by decide +kernel
theorem dX0_yearOf_13 : decode cX0_yearOf 13 = .ok (.getfield 35, 3) := by decide +kernel
theorem dX0_yearOf_16 : decode cX0_yearOf 16 = .ok (.i2l, 1) := by decide +kernel
theorem dX0_yearOf_17 : decode cX0_yearOf 17 = .ok (.lsub, 1) := by decide +kernel
theorem dX0_yearOf_18 : decode cX0_yearOf 18 = .ok (.lstore_n 2, 1) := by decide +kernel
theorem dX0_yearOf_19 : decode cX0_yearOf 19 = .ok (.lload_n 2, 1) := by decide +kernel
theorem dX0_yearOf_20 : decode cX0_yearOf 20 = .ok (.aload_n 0, 1) := by decide +kernel
theorem dX0_yearOf_21 : decode cX0_yearOf 21 = .ok (.getfield 29, 3) := by decide +kernel
theorem dX0_yearOf_24 : decode cX0_yearOf 24 = .ok (.i2l, 1) := by decide +kernel
theorem dX0_yearOf_25 : decode cX0_yearOf 25 = .ok (.aload_n 0, 1) := by decide +kernel
theorem dX0_yearOf_26 : decode cX0_yearOf 26 = .ok (.getfield 38, 3) := by decide +kernel
theorem dX0_yearOf_29 : decode cX0_yearOf 29 = .ok (.i2l, 1) := by decide +kernel
theorem dX0_yearOf_30 : decode cX0_yearOf 30 = .ok (.lmul, 1) := by decide +kernel
theorem dX0_yearOf_31 : decode cX0_yearOf 31 = .ok (.aload_n 0, 1) := by decide +kernel
theorem dX0_yearOf_32 : decode cX0_yearOf 32 = .ok (.getfield 32, 3) := by decide +kernel
theorem dX0_yearOf_35 : decode cX0_yearOf 35 = .ok (.i2l, 1) := by decide +kernel
theorem dX0_yearOf_36 : decode cX0_yearOf 36 = .ok (.ladd, 1) := by decide +kernel
theorem dX0_yearOf_37 : decode cX0_yearOf 37 = .ok (.invokestatic 120, 3) := by decide +kernel
theorem dX0_yearOf_40 : decode cX0_yearOf 40 = .ok (.l2i, 1) := by decide +kernel
theorem dX0_yearOf_41 : decode cX0_yearOf 41 = .ok (.ireturn, 1) := by decide +kernel
set_option maxRecDepth 20000 in
theorem ggX0_hasLeapDay_X0_modulo : GoodIn wsX0_hasLeapDay wsX0_modulo := goodIn_r _ [7, 8, 9, 10, 11] (by decide +kernel) (by decide +kernel)
set_option maxRecDepth 20000 in
theorem gX0_hasLeapDay_X0_modulo : GoodIn wsX0_hasLeapDay (va_wsS RX0 71 yX0_modulo wsX0_modulo) := goodIn_app (goodIn_of _ (by decide +kernel)) ggX0_hasLeapDay_X0_modulo
theorem dX0_hasLeapDay_0 : decode cX0_hasLeapDay 0 = .ok (.aload_n 0, 1) := by decide +kernel
theorem dX0_hasLeapDay_1 : decode cX0_hasLeapDay 1 = .ok (.getfield 32, 3) := by decide +kernel
theorem dX0_hasLeapDay_4 : decode cX0_hasLeapDay 4 = .ok (.iload_n 1, 1) := by decide +kernel
theorem dX0_hasLeapDay_5 : decode cX0_hasLeapDay 5 = .ok (.imul, 1) := by decide +kernel
theorem dX0_hasLeapDay_6 : decode cX0_hasLeapDay 6 = .ok (.aload_n 0, 1) := by decide +kernel
theorem dX0_hasLeapDay_7 : decode cX0_hasLeapDay 7 = .ok (.getfield 35, 3) := by decide +kernel
theorem dX0_hasLeapDay_10 : decode cX0_hasLeapDay 10 = .ok (.iadd, 1) := by decide +kernel
theorem dX0_hasLeapDay_11 : decode cX0_hasLeapDay 11 = .ok (.i2l, 1) := by decide +kernel
theorem dX0_hasLeapDay_12 : decode cX0_hasLeapDay 12 = .ok (.aload_n 0, 1) := by decide +kernel
theorem dX0_hasLeapDay_13 : decode cX0_hasLeapDay 13 = .ok (.getfield 38, 3) := by decide +kernel
theorem dX0_hasLeapDay_16 : decode cX0_hasLeapDay 16 = .ok (.i2l, 1) := by decide +kernel
theorem dX0_hasLeapDay_17 : decode cX0_hasLeapDay 17 = .ok (.invokestatic 71, 3) := by decide +kernel
theorem dX0_hasLeapDay_20 : decode cX0_hasLeapDay 20 = .ok (.aload_n 0, 1) := by decide +kernel
theorem dX0_hasLeapDay_21 : decode cX0_hasLeapDay 21 = .ok (.getfield 38, 3) := by decide +kernel
theorem dX0_hasLeapDay_24 : decode cX0_hasLeapDay 24 = .ok (.aload_n 0, 1) := by decide +kernel
theorem dX0_hasLeapDay_25 : decode cX0_hasLeapDay 25 = .ok (.getfield 32, 3) := by decide +kernel
theorem dX0_hasLeapDay_28 : decode cX0_hasLeapDay 28 = .ok (.isub, 1) := by decide +kernel
theorem dX0_hasLeapDay_29 : decode cX0_hasLeapDay 29 = .ok (.i2l, 1) := by decide +kernel
theorem dX0_hasLeapDay_30 : decode cX0_hasLeapDay 30 = .ok (.lcmp, 1) := by decide +kernel
theorem dX0_hasLeapDay_31 : decode cX0_hasLeapDay 31 = .ok (.ifCond .lt 7, 3) := by decide +kernel
theorem dX0_hasLeapDay_34 : decode cX0_hasLeapDay 34 = .ok (.iconst 1, 1) := by decide +kernel
theorem dX0_hasLeapDay_35 : decode cX0_hasLeapDay 35 = .ok (.goto 4, 3) := by decide +kernel
theorem dX0_hasLeapDay_38 : decode cX0_hasLeapDay 38 = .ok (.iconst 0, 1) := by decide +kernel
theorem dX0_hasLeapDay_39 : decode cX0_hasLeapDay 39 = .ok (.ireturn, 1) := by decide +kernel
theorem dX0_isWithin_0 : decode cX0_isWithin 0 = .ok (.iload_n 0, 1) := by decide +kernel
theorem dX0_isWithin_1 : decode cX0_isWithin 1 = .ok (.iload_n 1, 1) := by decide +kernel
theorem dX0_isWithin_2 : decode cX0_isWithin 2 = .ok (.if_icmp .lt 12, 3) := by decide +kernel
theorem dX0_isWithin_5 : decode cX0_isWithin 5 = .ok (.iload_n 0, 1) := by decide +kernel
theorem dX0_isWithin_6 : decode cX0_isWithin 6 = .ok (.iload_n 2, 1) := by decide +kernel
theorem dX0_isWithin_7 : decode cX0_isWithin 7 = .ok (.if_icmp .gt 7, 3) := by decide +kernel
theorem dX0_isWithin_10 : decode cX0_isWithin 10 = .ok (.iconst 1, 1) := by decide +kernel
theorem dX0_isWithin_11 : decode cX0_isWithin 11 = .ok (.goto 4, 3) := by decide +kernel
theorem dX0_isWithin_14 : decode cX0_isWithin 14 = .ok (.iconst 0, 1) := by decide +kernel
theorem dX0_isWithin_15 : decode cX0_isWithin 15 = .ok (.ireturn, 1) := by decide +kernel
set_option maxRecDepth 20000 in
theorem ggX0_divide_J9_floorDiv_f86c9 : GoodIn wsX0_divide wsJ9_floorDiv_f86c9 := goodIn_r _ [4] (by decide +kernel) (by decide +kernel)
set_option maxRecDepth 20000 in
theorem gX0_divide_J9_floorDiv_f86c9 : GoodIn wsX0_divide (va_wsS RX0 161 yJ9_floorDiv_f86c9 wsJ9_floorDiv_f86c9) := goodIn_app (goodIn_of _ (by decide +kernel)) ggX0_divide_J9_floorDiv_f86c9
theorem dX0_divide_0 : decode cX0_divide 0 = .ok (.lload_n 2, 1) := by decide +kernel
theorem dX0_divide_1 : decode cX0_divide 1 = .ok (.lconst 0, 1) := by decide +kernel
theorem dX0_divide_2 : decode cX0_divide 2 = .ok (.lcmp, 1) := by decide +kernel
theorem dX0_divide_3 : decode cX0_divide 3 = .ok (.ifCond .le 11, 3) := by decide +kernel
theorem dX0_divide_6 : decode cX0_divide 6 = .ok (.lload_n 0, 1) := by decide +kernel
theorem dX0_divide_7 : decode cX0_divide 7 = .ok (.lload_n 2, 1) := by decide +kernel
theorem dX0_divide_8 : decode cX0_divide 8 = .ok (.invokestatic 161, 3) := by decide +kernel
theorem dX0_divide_11 : decode cX0_divide 11 = .ok (.goto 4, 3) := by decide +kernel
theorem dX0_divide_14 : decode cX0_divide 14 = .ok (.lconst 0, 1) := by decide +kernel
theorem dX0_divide_15 : decode cX0_divide 15 = .ok (.lreturn, 1) := by decide +kernel
set_option maxRecDepth 20000 in
theorem ggX0_modulo_J9_floorMod_f86c9 : GoodIn wsX0_modulo wsJ9_floorMod_f86c9 := goodIn_r _ [4] (by decide +kernel) (by decide +kernel)
set_option maxRecDepth 20000 in
theorem gX0_modulo_J9_floorMod_f86c9 : GoodIn wsX0_modulo (va_wsS RX0 166 yJ9_floorMod_f86c9 wsJ9_floorMod_f86c9) := goodIn_app (goodIn_of _ (by decide +kernel)) ggX0_modulo_J9_floorMod_f86c9
theorem dX0_modulo_0 : decode cX0_modulo 0 = .ok (.lload_n 2, 1) := by decide +kernel
theorem dX0_modulo_1 : decode cX0_modulo 1 = .ok (.lconst 0, 1) := by decide +kernel
theorem dX0_modulo_2 : decode cX0_modulo 2 = .ok (.lcmp, 1) := by decide +kernel
theorem dX0_modulo_3 : decode cX0_modulo 3 = .ok (.ifCond .le 11, 3) := by decide +kernel
theorem dX0_modulo_6 : decode cX0_modulo 6 = .ok (.lload_n 0, 1) := by decide +kernel
theorem dX0_modulo_7 : decode cX0_modulo 7 = .ok (.lload_n 2, 1) := by decide +kernel
theorem dX0_modulo_8 : decode cX0_modulo 8 = .ok (.invokestatic 166, 3) := by decide +kernel
theorem dX0_modulo_11 : decode cX0_modulo 11 = .ok (.goto 4, 3) := by decide +kernel
theorem dX0_modulo_14 : decode cX0_modulo 14 = .ok (.lconst 0, 1) := by decide +kernel
theorem dX0_modulo_15 : decode cX0_modulo 15 = .ok (.lreturn, 1) := by decide +kernel
theorem dJ6_bitCount_0f7a4_0 : decode cJ6_bitCount_0f7a4 0 = .ok (.iload_n 0, 1) := by decide +kernel
theorem dJ6_bitCount_0f7a4_1 : decode cJ6_bitCount_0f7a4 1 = .ok (.iload_n 0, 1) := by decide +kernel
theorem dJ6_bitCount_0f7a4_2 : decode cJ6_bitCount_0f7a4 2 = .ok (.iconst 1, 1) := by decide +kernel
theorem dJ6_bitCount_0f7a4_3 : decode cJ6_bitCount_0f7a4 3 = .ok (.iushr, 1) := by decide +kernel
theorem dJ6_bitCount_0f7a4_4 : decode cJ6_bitCount_0f7a4 4 = .ok (.ldc_w 265, 3) := by decide +kernel
theorem dJ6_bitCount_0f7a4_7 : decode cJ6_bitCount_0f7a4 7 = .ok (.iand, 1) := by decide +kernel
theorem dJ6_bitCount_0f7a4_8 : decode cJ6_bitCount_0f7a4 8 = .ok (.isub, 1) := by decide +kernel
theorem dJ6_bitCount_0f7a4_9 : decode cJ6_bitCount_0f7a4 9 = .ok (.istore_n 0, 1) := by decide +kernel
theorem dJ6_bitCount_0f7a4_10 : decode cJ6_bitCount_0f7a4 10 = .ok (.iload_n 0, 1) := by decide +kernel
theorem dJ6_bitCount_0f7a4_11 : decode cJ6_bitCount_0f7a4 11 = .ok (.ldc_w 266, 3) := by decide +kernel
theorem dJ6_bitCount_0f7a4_14 : decode cJ6_bitCount_0f7a4 14 = .ok (.iand, 1) := by decide +kernel
theorem dJ6_bitCount_0f7a4_15 : decode cJ6_bitCount_0f7a4 15 = .ok (.iload_n 0, 1) := by decide +kernel
theorem dJ6_bitCount_0f7a4_16 : decode cJ6_bitCount_0f7a4 16 = .ok (.iconst 2, 1) := by decide +kernel
theorem dJ6_bitCount_0f7a4_17 : decode cJ6_bitCount_0f7a4 17 = .ok (.iushr, 1) := by decide +kernel
theorem dJ6_bitCount_0f7a4_18 : decode cJ6_bitCount_0f7a4 18 = .ok (.ldc_w 266, 3) := by decide +kernel
theorem dJ6_bitCount_0f7a4_21 : decode cJ6_bitCount_0f7a4 21 = .ok (.iand, 1) := by decide +kernel
theorem dJ6_bitCount_0f7a4_22 : decode cJ6_bitCount_0f7a4 22 = .ok (.iadd, 1) := by decide +kernel
theorem dJ6_bitCount_0f7a4_23 : decode cJ6_bitCount_0f7a4 23 = .ok (.istore_n 0, 1) := by decide +kernel
theorem dJ6_bitCount_0f7a4_24 : decode cJ6_bitCount_0f7a4 24 = .ok (.iload_n 0, 1) := by decide +kernel
theorem dJ6_bitCount_0f7a4_25 : decode cJ6_bitCount_0f7a4 25 = .ok (.iload_n 0, 1) := by decide +kernel
theorem dJ6_bitCount_0f7a4_26 : decode cJ6_bitCount_0f7a4 26 = .ok (.iconst 4, 1) := by decide +kernel
theorem dJ6_bitCount_0f7a4_27 : decode cJ6_bitCount_0f7a4 27 = .ok (.iushr, 1) := by decide +kernel
theorem dJ6_bitCount_0f7a4_28 : decode cJ6_bitCount_0f7a4 28 = .ok (.iadd, 1) := by decide +kernel
theorem dJ6_bitCount_0f7a4_29 : decode cJ6_bitCount_0f7a4 29 = .ok (.ldc_w 267, 3) := by decide +kernel
theorem dJ6_bitCount_0f7a4_32 : decode cJ6_bitCount_0f7a4 32 = .ok (.iand, 1) := by decide +kernel
theorem dJ6_bitCount_0f7a4_33 : decode cJ6_bitCount_0f7a4 33 = .ok (.istore_n 0, 1) := by decide +kernel
theorem dJ6_bitCount_0f7a4_34 : decode cJ6_bitCount_0f7a4 34 = .ok (.iload_n 0, 1) := by decide +kernel
theorem dJ6_bitCount_0f7a4_35 : decode cJ6_bitCount_0f7a4 35 = .ok (.iload_n 0, 1) := by decide +kernel
theorem dJ6_bitCount_0f7a4_36 : decode cJ6_bitCount_0f7a4 36 = .ok (.bipush 8, 2) := by decide +kernel
theorem dJ6_bitCount_0f7a4_38 : decode cJ6_bitCount_0f7a4 38 = .ok (.iushr, 1) := by decide +kernel
theorem dJ6_bitCount_0f7a4_39 : decode cJ6_bitCount_0f7a4 39 = .ok (.iadd, 1) := by decide +kernel
theorem dJ6_bitCount_0f7a4_40 : decode cJ6_bitCount_0f7a4 40 = .ok (.istore_n 0, 1) := by decide +kernel
theorem dJ6_bitCount_0f7a4_41 : decode cJ6_bitCount_0f7a4 41 = .ok (.iload_n 0, 1) := by decide +kernel
theorem dJ6_bitCount_0f7a4_42 : decode cJ6_bitCount_0f7a4 42 = .ok (.iload_n 0, 1) := by decide +kernel
theorem dJ6_bitCount_0f7a4_43 : decode cJ6_bitCount_0f7a4 43 = .ok (.bipush 16, 2) := by decide +kernel
theorem dJ6_bitCount_0f7a4_45 : decode cJ6_bitCount_0f7a4 45 = .ok (.iushr, 1) := by decide +kernel
theorem dJ6_bitCount_0f7a4_46 : decode cJ6_bitCount_0f7a4 46 = .ok (.iadd, 1) := by decide +kernel
theorem dJ6_bitCount_0f7a4_47 : decode cJ6_bitCount_0f7a4 47 = .ok (.istore_n 0, 1) := by decide +kernel
theorem dJ6_bitCount_0f7a4_48 : decode cJ6_bitCount_0f7a4 48 = .ok (.iload_n 0, 1) := by decide +kernel
theorem dJ6_bitCount_0f7a4_49 : decode cJ6_bitCount_0f7a4 49 = .ok (.bipush 63, 2) := by decide +kernel
theorem dJ6_bitCount_0f7a4_51 : decode cJ6_bitCount_0f7a4 51 = .ok (.iand, 1) := by decide +kernel
theorem dJ6_bitCount_0f7a4_52 : decode cJ6_bitCount_0f7a4 52 = .ok (.ireturn, 1) := by decide +kernel
theorem dJ9_floorDiv_f86c9_0 : decode cJ9_floorDiv_f86c9 0 = .ok (.lload_n 0, 1) := by decide +kernel
theorem dJ9_floorDiv_f86c9_1 : decode cJ9_floorDiv_f86c9 1 = .ok (.lload_n 2, 1) := by decide +kernel
theorem dJ9_floorDiv_f86c9_2 : decode cJ9_floorDiv_f86c9 2 = .ok (.ldiv, 1) := by decide +kernel
theorem dJ9_floorDiv_f86c9_3 : decode cJ9_floorDiv_f86c9 3 = .ok (.lstore 4, 2) := by decide +kernel
theorem dJ9_floorDiv_f86c9_5 : decode cJ9_floorDiv_f86c9 5 = .ok (.lload_n 0, 1) := by decide +kernel
theorem dJ9_floorDiv_f86c9_6 : decode cJ9_floorDiv_f86c9 6 = .ok (.lload_n 2, 1) := by decide +kernel
theorem dJ9_floorDiv_f86c9_7 : decode cJ9_floorDiv_f86c9 7 = .ok (.lxor, 1) := by decide +kernel
theorem dJ9_floorDiv_f86c9_8 : decode cJ9_floorDiv_f86c9 8 = .ok (.lconst 0, 1) := by decide +kernel
theorem dJ9_floorDiv_f86c9_9 : decode cJ9_floorDiv_f86c9 9 = .ok (.lcmp, 1) := by decide +kernel
theorem dJ9_floorDiv_f86c9_10 : decode cJ9_floorDiv_f86c9 10 = .ok (.ifCond .ge 17, 3) := by decide +kernel
theorem dJ9_floorDiv_f86c9_13 : decode cJ9_floorDiv_f86c9 13 = .ok (.lload 4, 2) := by decide +kernel
theorem dJ9_floorDiv_f86c9_15 : decode cJ9_floorDiv_f86c9 15 = .ok (.lload_n 2, 1) := by decide +kernel
theorem dJ9_floorDiv_f86c9_16 : decode cJ9_floorDiv_f86c9 16 = .ok (.lmul, 1) := by decide +kernel
theorem dJ9_floorDiv_f86c9_17 : decode cJ9_floorDiv_f86c9 17 = .ok (.lload_n 0, 1) := by decide +kernel
theorem dJ9_floorDiv_f86c9_18 : decode cJ9_floorDiv_f86c9 18 = .ok (.lcmp, 1) := by decide +kernel
theorem dJ9_floorDiv_f86c9_19 : decode cJ9_floorDiv_f86c9 19 = .ok (.ifCond .eq 8, 3) := by decide +kernel
theorem dJ9_floorDiv_f86c9_22 : decode cJ9_floorDiv_f86c9 22 = .ok (.lload 4, 2) := by decide +kernel
theorem dJ9_floorDiv_f86c9_24 : decode cJ9_floorDiv_f86c9 24 = .ok (.lconst 1, 1) := by decide +kernel
theorem dJ9_floorDiv_f86c9_25 : decode cJ9_floorDiv_f86c9 25 = .ok (.lsub, 1) := by decide +kernel
theorem dJ9_floorDiv_f86c9_26 : decode cJ9_floorDiv_f86c9 26 = .ok (.lreturn, 1) := by decide +kernel
theorem dJ9_floorDiv_f86c9_27 : decode cJ9_floorDiv_f86c9 27 = .ok (.lload 4, 2) := by decide +kernel
theorem dJ9_floorDiv_f86c9_29 : decode cJ9_floorDiv_f86c9 29 = .ok (.lreturn, 1) := by decide +kernel
theorem dJ9_floorMod_f86c9_0 : decode cJ9_floorMod_f86c9 0 = .ok (.lload_n 0, 1) := by decide +kernel
theorem dJ9_floorMod_f86c9_1 : decode cJ9_floorMod_f86c9 1 = .ok (.lload_n 2, 1) := by decide +kernel
theorem dJ9_floorMod_f86c9_2 : decode cJ9_floorMod_f86c9 2 = .ok (.lrem, 1) := by decide +kernel
theorem dJ9_floorMod_f86c9_3 : decode cJ9_floorMod_f86c9 3 = .ok (.lstore 4, 2) := by decide +kernel
theorem dJ9_floorMod_f86c9_5 : decode cJ9_floorMod_f86c9 5 = .ok (.lload_n 0, 1) := by decide +kernel
theorem dJ9_floorMod_f86c9_6 : decode cJ9_floorMod_f86c9 6 = .ok (.lload_n 2, 1) := by decide +kernel
theorem dJ9_floorMod_f86c9_7 : decode cJ9_floorMod_f86c9 7 = .ok (.lxor, 1) := by decide +kernel
theorem dJ9_floorMod_f86c9_8 : decode cJ9_floorMod_f86c9 8 = .ok (.lconst 0, 1) := by decide +kernel
theorem dJ9_floorMod_f86c9_9 : decode cJ9_floorMod_f86c9 9 = .ok (.lcmp, 1) := by decide +kernel
theorem dJ9_floorMod_f86c9_10 : decode cJ9_floorMod_f86c9 10 = .ok (.ifCond .ge 15, 3) := by decide +kernel
theorem dJ9_floorMod_f86c9_13 : decode cJ9_floorMod_f86c9 13 = .ok (.lload 4, 2) := by decide +kernel
theorem dJ9_floorMod_f86c9_15 : decode cJ9_floorMod_f86c9 15 = .ok (.lconst 0, 1) := by decide +kernel
theorem dJ9_floorMod_f86c9_16 : decode cJ9_floorMod_f86c9 16 = .ok (.lcmp, 1) := by decide +kernel
theorem dJ9_floorMod_f86c9_17 : decode cJ9_floorMod_f86c9 17 = .ok (.ifCond .eq 8, 3) := by decide +kernel
theorem dJ9_floorMod_f86c9_20 : decode cJ9_floorMod_f86c9 20 = .ok (.lload 4, 2) := by decide +kernel
theorem dJ9_floorMod_f86c9_22 : decode cJ9_floorMod_f86c9 22 = .ok (.lload_n 2, 1) := by decide +kernel
theorem dJ9_floorMod_f86c9_23 : decode cJ9_floorMod_f86c9 23 = .ok (.ladd, 1) := by decide +kernel
theorem dJ9_floorMod_f86c9_24 : decode cJ9_floorMod_f86c9 24 = .ok (.lreturn, 1) := by decide +kernel
theorem dJ9_floorMod_f86c9_25 : decode cJ9_floorMod_f86c9 25 = .ok (.lload 4, 2) := by decide +kernel
theorem dJ9_floorMod_f86c9_27 : decode cJ9_floorMod_f86c9 27 = .ok (.lreturn, 1) := by decide +kernel
theorem dL_cell_0 : decode cL_cell 0 = .ok (.iload_n 1, 1) := by decide +kernel
theorem dL_cell_1 : decode cL_cell 1 = .ok (.aload_n 0, 1) := by decide +kernel
theorem dL_cell_2 : decode cL_cell 2 = .ok (.arraylength, 1) := by decide +kernel
theorem dL_cell_3 : decode cL_cell 3 = .ok (.if_icmp .ge 9, 3) := by decide +kernel
theorem dL_cell_6 : decode cL_cell 6 = .ok (.aload_n 0, 1) := by decide +kernel
theorem dL_cell_7 : decode cL_cell 7 = .ok (.iload_n 1, 1) := by decide +kernel
theorem dL_cell_8 : decode cL_cell 8 = .ok (.iaload, 1) := by decide +kernel
theorem dL_cell_9 : decode cL_cell 9 = .ok (.goto 18, 3) := by decide +kernel
theorem dL_cell_12 : decode cL_cell 12 = .ok (.sipush 7919, 3) := by decide +kernel
theorem dL_cell_15 : decode cL_cell 15 = .ok (.iload_n 1, 1) := by decide +kernel
theorem dL_cell_16 : decode cL_cell 16 = .ok (.sipush 241, 3) := by decide +kernel
theorem dL_cell_19 : decode cL_cell 19 = .ok (.iadd, 1) := by decide +kernel
theorem dL_cell_20 : decode cL_cell 20 = .ok (.imul, 1) := by decide +kernel
theorem dL_cell_21 : decode cL_cell 21 = .ok (.iload_n 1, 1) := by decide +kernel
theorem dL_cell_22 : decode cL_cell 22 = .ok (.sipush 1663, 3) := by decide +kernel
theorem dL_cell_25 : decode cL_cell 25 = .ok (.iadd, 1) := by decide +kernel
theorem dL_cell_26 : decode cL_cell 26 = .ok (.imul, 1) := by decide +kernel
theorem dL_cell_27 : decode cL_cell 27 = .ok (.ireturn, 1) := by decide +kernel
theorem dL_low_0 : decode cL_low 0 = .ok (.iload_n 0, 1) := by decide +kernel
theorem dL_low_1 : decode cL_low 1 = .ok (.ldc 7, 2) := by decide +kernel
theorem dL_low_3 : decode cL_low 3 = .ok (.iand, 1) := by decide +kernel
theorem dL_low_4 : decode cL_low 4 = .ok (.iload_n 1, 1) := by decide +kernel
theorem dL_low_5 : decode cL_low 5 = .ok (.irem, 1) := by decide +kernel
theorem dL_low_6 : decode cL_low 6 = .ok (.ireturn, 1) := by decide +kernel
set_option maxRecDepth 20000 in
theorem ggL_addMarket_X0_addMarket : GoodIn wsL_addMarket wsX0_addMarket := goodIn_ca (goodIn_ca (goodIn_r _ [8, 9, 10, 11, 12, 13, 14, 15, 7, 16, 17, 18, 19, 20, 21, 22, 23, 24, 25, 26, 27, 28, 29, 30, 31, 32, 33, 34, 35] (by decide +kernel) (by decide +kernel)) (goodIn_sub (fun _ h => List.mem_cons_of_mem _ (List.mem_append_left _ (List.mem_append_right _ h))) (by decide +kernel))) (goodIn_sub (fun _ h => List.mem_cons_of_mem _ (List.mem_append_right _ h)) (by decide +kernel))
set_option maxRecDepth 20000 in
theorem gL_addMarket_X0_addMarket : GoodIn wsL_addMarket (wsV RL 8 RX0 yX0_addMarket wsX0_addMarket) := goodIn_app (goodIn_of _ (by decide +kernel)) ggL_addMarket_X0_addMarket
theorem dL_addMarket_0 : decode cL_addMarket 0 = .ok (.aload_n 0, 1) := by decide +kernel
theorem dL_addMarket_1 : decode cL_addMarket 1 = .ok (.iload_n 1, 1) := by decide +kernel
theorem dL_addMarket_2 : decode cL_addMarket 2 = .ok (.iload_n 2, 1) := by decide +kernel
theorem dL_addMarket_3 : decode cL_addMarket 3 = .ok (.invokevirtual 8, 3) := by decide +kernel
theorem dL_addMarket_6 : decode cL_addMarket 6 = .ok (.ireturn, 1) := by decide +kernel
theorem dL_addMarket_7 : decode cL_addMarket 7 = .ok (.astore_n 3, 1) := by decide +kernel
theorem dL_addMarket_8 : decode cL_addMarket 8 = .ok (.ldc 16, 2) := by decide +kernel
theorem dL_addMarket_10 : decode cL_addMarket 10 = .ok (.ireturn, 1) := by decide +kernel
theorem dL_addMarket_11 : decode cL_addMarket 11 = .ok (.astore_n 3, 1) := by decide +kernel
theorem dL_addMarket_12 : decode cL_addMarket 12 = .ok (.ldc 16, 2) := by decide +kernel
theorem dL_addMarket_14 : decode cL_addMarket 14 = .ok (.ireturn, 1) := by decide +kernel
set_option maxRecDepth 20000 in
theorem ggL_shift_X0_shift : GoodIn wsL_shift wsX0_shift := goodIn_ca (goodIn_ca (goodIn_r _ [8, 9, 10, 11, 12, 7, 13, 14, 15, 16, 17, 18, 19, 20, 21, 22, 23, 24, 25, 26, 27, 28, 29, 30, 31, 32, 33, 34, 35, 36, 37, 38, 39, 40, 41, 42, 43, 44, 45, 46, 47, 48, 49, 50, 51, 52, 53, 54] (by decide +kernel) (by decide +kernel)) (goodIn_sub (fun _ h => List.mem_cons_of_mem _ (List.mem_append_left _ (List.mem_append_right _ h))) (by decide +kernel))) (goodIn_sub (fun _ h => List.mem_cons_of_mem _ (List.mem_append_right _ h)) (by decide +kernel))
set_option maxRecDepth 20000 in
theorem gL_shift_X0_shift : GoodIn wsL_shift (wsV RL 19 RX0 yX0_shift wsX0_shift) := goodIn_app (goodIn_of _ (by decide +kernel)) ggL_shift_X0_shift
theorem dL_shift_0 : decode cL_shift 0 = .ok (.aload_n 0, 1) := by decide +kernel
theorem dL_shift_1 : decode cL_shift 1 = .ok (.iload_n 1, 1) := by decide +kernel
theorem dL_shift_2 : decode cL_shift 2 = .ok (.iload_n 2, 1) := by decide +kernel
theorem dL_shift_3 : decode cL_shift 3 = .ok (.invokevirtual 19, 3) := by decide +kernel
theorem dL_shift_6 : decode cL_shift 6 = .ok (.ireturn, 1) := by decide +kernel
theorem dL_shift_7 : decode cL_shift 7 = .ok (.astore_n 3, 1) := by decide +kernel
theorem dL_shift_8 : decode cL_shift 8 = .ok (.ldc 16, 2) := by decide +kernel
theorem dL_shift_10 : decode cL_shift 10 = .ok (.ireturn, 1) := by decide +kernel
theorem dL_shift_11 : decode cL_shift 11 = .ok (.astore_n 3, 1) := by decide +kernel
theorem dL_shift_12 : decode cL_shift 12 = .ok (.ldc 16, 2) := by decide +kernel
theorem dL_shift_14 : decode cL_shift 14 = .ok (.ireturn, 1) := by decide +kernel
set_option maxRecDepth 20000 in
theorem ggL_setMoon_X0_setMoon : GoodIn wsL_setMoon wsX0_setMoon := goodIn_ca (goodIn_r _ [7, 8, 9, 10, 11, 12, 6, 13, 14, 15, 16, 17, 18, 19, 20, 21, 22, 23, 24, 25, 26, 27, 28] (by decide +kernel) (by decide +kernel)) (goodIn_sub (fun _ h => List.mem_cons_of_mem _ (List.mem_append_right _ h)) (by decide +kernel))
set_option maxRecDepth 20000 in
theorem gL_setMoon_X0_setMoon : GoodIn wsL_setMoon (wsV RL 24 RX0 yX0_setMoon wsX0_setMoon) := goodIn_app (goodIn_of _ (by decide +kernel)) ggL_setMoon_X0_setMoon
theorem dL_setMoon_0 : decode cL_setMoon 0 = .ok (.aload_n 0, 1) := by decide +kernel
theorem dL_setMoon_1 : decode cL_setMoon 1 = .ok (.iload_n 1, 1) := by decide +kernel
theorem dL_setMoon_2 : decode cL_setMoon 2 = .ok (.iload_n 2, 1) := by decide +kernel
theorem dL_setMoon_3 : decode cL_setMoon 3 = .ok (.iload_n 3, 1) := by decide +kernel
theorem dL_setMoon_4 : decode cL_setMoon 4 = .ok (.invokevirtual 24, 3) := by decide +kernel
theorem dL_setMoon_7 : decode cL_setMoon 7 = .ok (.iconst 0, 1) := by decide +kernel
theorem dL_setMoon_8 : decode cL_setMoon 8 = .ok (.ireturn, 1) := by decide +kernel
theorem dL_setMoon_9 : decode cL_setMoon 9 = .ok (.astore 4, 2) := by decide +kernel
theorem dL_setMoon_11 : decode cL_setMoon 11 = .ok (.ldc 16, 2) := by decide +kernel
theorem dL_setMoon_13 : decode cL_setMoon 13 = .ok (.ireturn, 1) := by decide +kernel
set_option maxRecDepth 20000 in
theorem ggL_setYear_X0_setYear : GoodIn wsL_setYear wsX0_setYear := goodIn_ca (goodIn_r _ [7, 8, 9, 10, 11, 12, 13, 6, 14, 15, 16, 17, 18, 19, 20, 21, 22, 23, 24, 25, 26, 27, 28, 29] (by decide +kernel) (by decide +kernel)) (goodIn_sub (fun _ h => List.mem_cons_of_mem _ (List.mem_append_right _ h)) (by decide +kernel))
set_option maxRecDepth 20000 in
theorem gL_setYear_X0_setYear : GoodIn wsL_setYear (wsV RL 28 RX0 yX0_setYear wsX0_setYear) := goodIn_app (goodIn_of _ (by decide +kernel)) ggL_setYear_X0_setYear
theorem dL_setYear_0 : decode cL_setYear 0 = .ok (.aload_n 0, 1) := by decide +kernel
theorem dL_setYear_1 : decode cL_setYear 1 = .ok (.iload_n 1, 1) := by decide +kernel
theorem dL_setYear_2 : decode cL_setYear 2 = .ok (.iload_n 2, 1) := by decide +kernel
theorem dL_setYear_3 : decode cL_setYear 3 = .ok (.iload_n 3, 1) := by decide +kernel
theorem dL_setYear_4 : decode cL_setYear 4 = .ok (.iload 4, 2) := by decide +kernel
theorem dL_setYear_6 : decode cL_setYear 6 = .ok (.invokevirtual 28, 3) := by decide +kernel
theorem dL_setYear_9 : decode cL_setYear 9 = .ok (.iconst 0, 1) := by decide +kernel
theorem dL_setYear_10 : decode cL_setYear 10 = .ok (.ireturn, 1) := by decide +kernel
theorem dL_setYear_11 : decode cL_setYear 11 = .ok (.astore 5, 2) := by decide +kernel
theorem dL_setYear_13 : decode cL_setYear 13 = .ok (.ldc 16, 2) := by decide +kernel
theorem dL_setYear_15 : decode cL_setYear 15 = .ok (.ireturn, 1) := by decide +kernel
set_option maxRecDepth 20000 in
theorem ggL_dayOf_X0_dayOf : GoodIn wsL_dayOf wsX0_dayOf := goodIn_ca (goodIn_r _ [7, 8, 9, 10, 6, 11, 12, 13, 14, 15, 16, 17, 18, 19, 20, 21, 22, 23, 24, 25, 26, 27, 28, 29, 30, 31, 32, 33, 34, 35, 36, 37, 38, 39, 40, 41, 42, 43, 44, 45, 46, 47, 48, 49, 50, 51, 52, 53] (by decide +kernel) (by decide +kernel)) (goodIn_sub (fun _ h => List.mem_cons_of_mem _ (List.mem_append_right _ h)) (by decide +kernel))
set_option maxRecDepth 20000 in
theorem gL_dayOf_X0_dayOf : GoodIn wsL_dayOf (wsV RL 32 RX0 yX0_dayOf wsX0_dayOf) := goodIn_app (goodIn_of _ (by decide +kernel)) ggL_dayOf_X0_dayOf
theorem dL_dayOf_0 : decode cL_dayOf 0 = .ok (.aload_n 0, 1) := by decide +kernel
theorem dL_dayOf_1 : decode cL_dayOf 1 = .ok (.iload_n 1, 1) := by decide +kernel
theorem dL_dayOf_2 : decode cL_dayOf 2 = .ok (.iload_n 2, 1) := by decide +kernel
theorem dL_dayOf_3 : decode cL_dayOf 3 = .ok (.invokevirtual 32, 3) := by decide +kernel
theorem dL_dayOf_6 : decode cL_dayOf 6 = .ok (.ireturn, 1) := by decide +kernel
theorem dL_dayOf_7 : decode cL_dayOf 7 = .ok (.astore_n 3, 1) := by decide +kernel
theorem dL_dayOf_8 : decode cL_dayOf 8 = .ok (.ldc 35, 2) := by decide +kernel
theorem dL_dayOf_10 : decode cL_dayOf 10 = .ok (.ireturn, 1) := by decide +kernel
set_option maxRecDepth 20000 in
theorem ggL_period_X0_period : GoodIn wsL_period wsX0_period := goodIn_ca (goodIn_ca (goodIn_ca (goodIn_r _ [9, 10, 11, 12, 8, 13, 14, 15, 16, 17, 18, 19, 20, 21, 22, 23, 24, 25, 26, 27, 28, 29, 30, 31, 32, 33, 34, 35, 36, 37, 38, 39, 40, 41, 42, 43, 44, 45, 46, 47, 48, 49, 50, 51, 52, 53, 54, 55, 56, 57, 58, 59, 60, 61, 62, 63, 64, 65, 66, 67, 68, 69, 70, 71, 72, 73, 74, 75, 76, 77, 78, 79, 80, 81, 82, 83, 84, 85, 86, 87, 88, 89, 90, 91] (by decide +kernel) (by decide +kernel)) (goodIn_sub (fun _ h => List.mem_cons_of_mem _ (List.mem_append_left _ (List.mem_append_left _ (List.mem_append_right _ h)))) (by decide +kernel))) (goodIn_sub (fun _ h => List.mem_cons_of_mem _ (List.mem_append_left _ (List.mem_append_right _ h))) (by decide +kernel))) (goodIn_sub (fun _ h => List.mem_cons_of_mem _ (List.mem_append_right _ h)) (by decide +kernel))
set_option maxRecDepth 20000 in
theorem gL_period_X0_period : GoodIn wsL_period (wsV RL 36 RX0 yX0_period wsX0_period) := goodIn_app (goodIn_of _ (by decide +kernel)) ggL_period_X0_period
theorem dL_period_0 : decode cL_period 0 = .ok (.aload_n 0, 1) := by decide +kernel
theorem dL_period_1 : decode cL_period 1 = .ok (.iload_n 1, 1) := by decide +kernel
theorem dL_period_2 : decode cL_period 2 = .ok (.invokevirtual 36, 3) := by decide +kernel
theorem dL_period_5 : decode cL_period 5 = .ok (.ireturn, 1) := by decide +kernel
theorem dL_period_6 : decode cL_period 6 = .ok (.astore_n 2, 1) := by decide +kernel
theorem dL_period_7 : decode cL_period 7 = .ok (.ldc 16, 2) := by decide +kernel
theorem dL_period_9 : decode cL_period 9 = .ok (.ireturn, 1) := by decide +kernel
theorem dL_period_10 : decode cL_period 10 = .ok (.astore_n 2, 1) := by decide +kernel
theorem dL_period_11 : decode cL_period 11 = .ok (.ldc 16, 2) := by decide +kernel
theorem dL_period_13 : decode cL_period 13 = .ok (.ireturn, 1) := by decide +kernel
theorem dL_period_14 : decode cL_period 14 = .ok (.astore_n 2, 1) := by decide +kernel
theorem dL_period_15 : decode cL_period 15 = .ok (.iconst (-1), 1) := by decide +kernel
theorem dL_period_16 : decode cL_period 16 = .ok (.ireturn, 1) := by decide +kernel
set_option maxRecDepth 20000 in
theorem ggL_meeting_X0_meeting : GoodIn wsL_meeting wsX0_meeting := goodIn_ca (goodIn_ca (goodIn_ca (goodIn_r _ [10, 11, 12, 9, 13, 14, 15, 16, 17, 18, 19, 20, 21, 22, 23, 24, 25, 26, 27, 28, 29, 30, 31, 32, 33, 34, 35, 36, 37, 38, 39, 40, 41, 42, 43, 44, 45, 46, 47, 48, 49, 50, 51, 52, 53, 54, 55, 56, 57, 58, 59, 60, 61, 62, 63, 64, 65, 66, 67, 68, 69, 70, 71, 72, 73, 74, 75, 76, 77, 78, 79, 80, 81, 82, 83, 84, 85, 86, 87, 88, 89, 90, 91, 92, 93, 94, 95, 96, 97] (by decide +kernel) (by decide +kernel)) (goodIn_sub (fun _ h => List.mem_cons_of_mem _ (List.mem_append_left _ (List.mem_append_left _ (List.mem_append_right _ h)))) (by decide +kernel))) (goodIn_sub (fun _ h => List.mem_cons_of_mem _ (List.mem_append_left _ (List.mem_append_right _ h))) (by decide +kernel))) (goodIn_sub (fun _ h => List.mem_cons_of_mem _ (List.mem_append_right _ h)) (by decide +kernel))
set_option maxRecDepth 20000 in
theorem gL_meeting_X0_meeting : GoodIn wsL_meeting (wsV RL 40 RX0 yX0_meeting wsX0_meeting) := goodIn_app (goodIn_of _ (by decide +kernel)) ggL_meeting_X0_meeting
theorem dL_meeting_0 : decode cL_meeting 0 = .ok (.aload_n 0, 1) := by decide +kernel
