set_option maxRecDepth 20000 in
theorem gX0_firstHeldInSteps_X0_isOn : GoodIn wsX0_firstHeldInSteps (wsV RX0 78 RX0 yX0_isOn wsX0_isOn) := goodIn_app (goodIn_of _ (by decide +kernel)) ggX0_firstHeldInSteps_X0_isOn
theorem dX0_firstHeldInSteps_0 : decode cX0_firstHeldInSteps 0 = .ok (.aload_n 0, 1) := by decide +kernel
theorem dX0_firstHeldInSteps_1 : decode cX0_firstHeldInSteps 1 = .ok (.iload_n 1, 1) := by decide +kernel
theorem dX0_firstHeldInSteps_2 : decode cX0_firstHeldInSteps 2 = .ok (.invokevirtual 68, 3) := by decide +kernel
theorem dX0_firstHeldInSteps_5 : decode cX0_firstHeldInSteps 5 = .ok (.istore 6, 2) := by decide +kernel
theorem dX0_firstHeldInSteps_7 : decode cX0_firstHeldInSteps 7 = .ok (.iconst 0, 1) := by decide +kernel
theorem dX0_firstHeldInSteps_8 : decode cX0_firstHeldInSteps 8 = .ok (.istore 7, 2) := by decide +kernel
theorem dX0_firstHeldInSteps_10 : decode cX0_firstHeldInSteps 10 = .ok (.iload 7, 2) := by decide +kernel
theorem dX0_firstHeldInSteps_12 : decode cX0_firstHeldInSteps 12 = .ok (.iload 6, 2) := by decide +kernel
theorem dX0_firstHeldInSteps_14 : decode cX0_firstHeldInSteps 14 = .ok (.if_icmp .ge 32, 3) := by decide +kernel
theorem dX0_firstHeldInSteps_17 : decode cX0_firstHeldInSteps 17 = .ok (.lload_n 2, 1) := by decide +kernel
theorem dX0_firstHeldInSteps_18 : decode cX0_firstHeldInSteps 18 = .ok (.iload 7, 2) := by decide +kernel
theorem dX0_firstHeldInSteps_20 : decode cX0_firstHeldInSteps 20 = .ok (.i2l, 1) := by decide +kernel
theorem dX0_firstHeldInSteps_21 : decode cX0_firstHeldInSteps 21 = .ok (.lload 4, 2) := by decide +kernel
theorem dX0_firstHeldInSteps_23 : decode cX0_firstHeldInSteps 23 = .ok (.lmul, 1) := by decide +kernel
theorem dX0_firstHeldInSteps_24 : decode cX0_firstHeldInSteps 24 = .ok (.ladd, 1) := by decide +kernel
theorem dX0_firstHeldInSteps_25 : decode cX0_firstHeldInSteps 25 = .ok (.lstore 8, 2) := by decide +kernel
theorem dX0_firstHeldInSteps_27 : decode cX0_firstHeldInSteps 27 = .ok (.aload_n 0, 1) := by decide +kernel
theorem dX0_firstHeldInSteps_28 : decode cX0_firstHeldInSteps 28 = .ok (.iload_n 1, 1) := by decide +kernel
theorem dX0_firstHeldInSteps_29 : decode cX0_firstHeldInSteps 29 = .ok (.lload 8, 2) := by decide +kernel
theorem dX0_firstHeldInSteps_31 : decode cX0_firstHeldInSteps 31 = .ok (.invokevirtual 78, 3) := by decide +kernel
theorem dX0_firstHeldInSteps_34 : decode cX0_firstHeldInSteps 34 = .ok (.ifCond .eq 6, 3) := by decide +kernel
theorem dX0_firstHeldInSteps_37 : decode cX0_firstHeldInSteps 37 = .ok (.lload 8, 2) := by decide +kernel
theorem dX0_firstHeldInSteps_39 : decode cX0_firstHeldInSteps 39 = .ok (.lreturn, 1) := by decide +kernel
theorem dX0_firstHeldInSteps_40 : decode cX0_firstHeldInSteps 40 = .ok (.iinc 7 1, 3) := by decide +kernel
theorem dX0_firstHeldInSteps_43 : decode cX0_firstHeldInSteps 43 = .ok (.goto (-33), 3) := by decide +kernel
theorem dX0_firstHeldInSteps_46 : decode cX0_firstHeldInSteps 46 = .ok (.ldc2_w 96, 3) := by decide +kernel
theorem dX0_firstHeldInSteps_49 : decode cX0_firstHeldInSteps 49 = .ok (.lreturn, 1) := by decide +kernel
set_option maxRecDepth 20000 in
theorem ggX0_commonLength_X0_lengthOf : GoodIn wsX0_commonLength wsX0_lengthOf := goodIn_r _ [6, 7, 8, 9, 10, 5, 11, 12, 23, 24, 25, 26, 27, 28, 29, 30, 31, 32] (by decide +kernel) (by decide +kernel)
set_option maxRecDepth 20000 in
theorem gX0_commonLength_X0_lengthOf : GoodIn wsX0_commonLength (wsV RX0 68 RX0 yX0_lengthOf wsX0_lengthOf) := goodIn_app (goodIn_of _ (by decide +kernel)) ggX0_commonLength_X0_lengthOf
set_option maxRecDepth 20000 in
theorem ggX0_commonLength_X0_commonMultiple : GoodIn wsX0_commonLength wsX0_commonMultiple := goodIn_r _ [15, 16, 17, 5, 18, 19, 20, 21, 22] (by decide +kernel) (by decide +kernel)
set_option maxRecDepth 20000 in
theorem gX0_commonLength_X0_commonMultiple : GoodIn wsX0_commonLength (va_wsS RX0 157 yX0_commonMultiple wsX0_commonMultiple) := goodIn_app (goodIn_of _ (by decide +kernel)) ggX0_commonLength_X0_commonMultiple
theorem dX0_commonLength_0 : decode cX0_commonLength 0 = .ok (.lconst 1, 1) := by decide +kernel
theorem dX0_commonLength_1 : decode cX0_commonLength 1 = .ok (.lstore_n 2, 1) := by decide +kernel
theorem dX0_commonLength_2 : decode cX0_commonLength 2 = .ok (.iconst 0, 1) := by decide +kernel
theorem dX0_commonLength_3 : decode cX0_commonLength 3 = .ok (.istore 4, 2) := by decide +kernel
theorem dX0_commonLength_5 : decode cX0_commonLength 5 = .ok (.iload 4, 2) := by decide +kernel
theorem dX0_commonLength_7 : decode cX0_commonLength 7 = .ok (.aload_n 0, 1) := by decide +kernel
theorem dX0_commonLength_8 : decode cX0_commonLength 8 = .ok (.getfield 16, 3) := by decide +kernel
theorem dX0_commonLength_11 : decode cX0_commonLength 11 = .ok (.if_icmp .ge 30, 3) := by decide +kernel
theorem dX0_commonLength_14 : decode cX0_commonLength 14 = .ok (.iload_n 1, 1) := by decide +kernel
theorem dX0_commonLength_15 : decode cX0_commonLength 15 = .ok (.iload 4, 2) := by decide +kernel
theorem dX0_commonLength_17 : decode cX0_commonLength 17 = .ok (.iushr, 1) := by decide +kernel
theorem dX0_commonLength_18 : decode cX0_commonLength 18 = .ok (.iconst 1, 1) := by decide +kernel
theorem dX0_commonLength_19 : decode cX0_commonLength 19 = .ok (.iand, 1) := by decide +kernel
theorem dX0_commonLength_20 : decode cX0_commonLength 20 = .ok (.iconst 1, 1) := by decide +kernel
theorem dX0_commonLength_21 : decode cX0_commonLength 21 = .ok (.if_icmp .ne 14, 3) := by decide +kernel
theorem dX0_commonLength_24 : decode cX0_commonLength 24 = .ok (.lload_n 2, 1) := by decide +kernel
theorem dX0_commonLength_25 : decode cX0_commonLength 25 = .ok (.aload_n 0, 1) := by decide +kernel
theorem dX0_commonLength_26 : decode cX0_commonLength 26 = .ok (.iload 4, 2) := by decide +kernel
theorem dX0_commonLength_28 : decode cX0_commonLength 28 = .ok (.invokevirtual 68, 3) := by decide +kernel
theorem dX0_commonLength_31 : decode cX0_commonLength 31 = .ok (.invokestatic 157, 3) := by decide +kernel
theorem dX0_commonLength_34 : decode cX0_commonLength 34 = .ok (.lstore_n 2, 1) := by decide +kernel
theorem dX0_commonLength_35 : decode cX0_commonLength 35 = .ok (.iinc 4 1, 3) := by decide +kernel
theorem dX0_commonLength_38 : decode cX0_commonLength 38 = .ok (.goto (-33), 3) := by decide +kernel
theorem dX0_commonLength_41 : decode cX0_commonLength 41 = .ok (.lload_n 2, 1) := by decide +kernel
theorem dX0_commonLength_42 : decode cX0_commonLength 42 = .ok (.lreturn, 1) := by decide +kernel
set_option maxRecDepth 20000 in
theorem ggX0_commonMultiple_X0_modulo : GoodIn wsX0_commonMultiple wsX0_modulo := goodIn_r _ [4, 5, 6, 7, 8] (by decide +kernel) (by decide +kernel)
set_option maxRecDepth 20000 in
theorem gX0_commonMultiple_X0_modulo : GoodIn wsX0_commonMultiple (va_wsS RX0 71 yX0_modulo wsX0_modulo) := goodIn_app (goodIn_of _ (by decide +kernel)) ggX0_commonMultiple_X0_modulo
theorem dX0_commonMultiple_0 : decode cX0_commonMultiple 0 = .ok (.iconst 1, 1) := by decide +kernel
theorem dX0_commonMultiple_1 : decode cX0_commonMultiple 1 = .ok (.istore_n 3, 1) := by decide +kernel
theorem dX0_commonMultiple_2 : decode cX0_commonMultiple 2 = .ok (.iload_n 3, 1) := by decide +kernel
theorem dX0_commonMultiple_3 : decode cX0_commonMultiple 3 = .ok (.iload_n 2, 1) := by decide +kernel
theorem dX0_commonMultiple_4 : decode cX0_commonMultiple 4 = .ok (.if_icmp .ge 28, 3) := by decide +kernel
theorem dX0_commonMultiple_7 : decode cX0_commonMultiple 7 = .ok (.lload_n 0, 1) := by decide +kernel
theorem dX0_commonMultiple_8 : decode cX0_commonMultiple 8 = .ok (.iload_n 3, 1) := by decide +kernel
theorem dX0_commonMultiple_9 : decode cX0_commonMultiple 9 = .ok (.i2l, 1) := by decide +kernel
theorem dX0_commonMultiple_10 : decode cX0_commonMultiple 10 = .ok (.lmul, 1) := by decide +kernel
theorem dX0_commonMultiple_11 : decode cX0_commonMultiple 11 = .ok (.iload_n 2, 1) := by decide +kernel
theorem dX0_commonMultiple_12 : decode cX0_commonMultiple 12 = .ok (.i2l, 1) := by decide +kernel
theorem dX0_commonMultiple_13 : decode cX0_commonMultiple 13 = .ok (.invokestatic 71, 3) := by decide +kernel
theorem dX0_commonMultiple_16 : decode cX0_commonMultiple 16 = .ok (.lconst 0, 1) := by decide +kernel
theorem dX0_commonMultiple_17 : decode cX0_commonMultiple 17 = .ok (.lcmp, 1) := by decide +kernel
theorem dX0_commonMultiple_18 : decode cX0_commonMultiple 18 = .ok (.ifCond .ne 8, 3) := by decide +kernel
theorem dX0_commonMultiple_21 : decode cX0_commonMultiple 21 = .ok (.lload_n 0, 1) := by decide +kernel
theorem dX0_commonMultiple_22 : decode cX0_commonMultiple 22 = .ok (.iload_n 3, 1) := by decide +kernel
theorem dX0_commonMultiple_23 : decode cX0_commonMultiple 23 = .ok (.i2l, 1) := by decide +kernel
theorem dX0_commonMultiple_24 : decode cX0_commonMultiple 24 = .ok (.lmul, 1) := by decide +kernel
theorem dX0_commonMultiple_25 : decode cX0_commonMultiple 25 = .ok (.lreturn, 1) := by decide +kernel
theorem dX0_commonMultiple_26 : decode cX0_commonMultiple 26 = .ok (.iinc 3 1, 3) := by decide +kernel
theorem dX0_commonMultiple_29 : decode cX0_commonMultiple 29 = .ok (.goto (-27), 3) := by decide +kernel
theorem dX0_commonMultiple_32 : decode cX0_commonMultiple 32 = .ok (.lload_n 0, 1) := by decide +kernel
theorem dX0_commonMultiple_33 : decode cX0_commonMultiple 33 = .ok (.iload_n 2, 1) := by decide +kernel
theorem dX0_commonMultiple_34 : decode cX0_commonMultiple 34 = .ok (.i2l, 1) := by decide +kernel
theorem dX0_commonMultiple_35 : decode cX0_commonMultiple 35 = .ok (.lmul, 1) := by decide +kernel
theorem dX0_commonMultiple_36 : decode cX0_commonMultiple 36 = .ok (.lreturn, 1) := by decide +kernel
theorem dX0_moonParts_0 : decode cX0_moonParts 0 = .ok (.lload_n 1, 1) := by decide +kernel
theorem dX0_moonParts_1 : decode cX0_moonParts 1 = .ok (.aload_n 0, 1) := by decide +kernel
theorem dX0_moonParts_2 : decode cX0_moonParts 2 = .ok (.getfield 26, 3) := by decide +kernel
theorem dX0_moonParts_5 : decode cX0_moonParts 5 = .ok (.i2l, 1) := by decide +kernel
theorem dX0_moonParts_6 : decode cX0_moonParts 6 = .ok (.ladd, 1) := by decide +kernel
theorem dX0_moonParts_7 : decode cX0_moonParts 7 = .ok (.aload_n 0, 1) := by decide +kernel
theorem dX0_moonParts_8 : decode cX0_moonParts 8 = .ok (.getfield 23, 3) := by decide +kernel
theorem dX0_moonParts_11 : decode cX0_moonParts 11 = .ok (.i2l, 1) := by decide +kernel
theorem dX0_moonParts_12 : decode cX0_moonParts 12 = .ok (.lmul, 1) := by decide +kernel
theorem dX0_moonParts_13 : decode cX0_moonParts 13 = .ok (.lreturn, 1) := by decide +kernel
set_option maxRecDepth 20000 in
theorem ggX0_lunarDayOf_X0_moonParts : GoodIn wsX0_lunarDayOf wsX0_moonParts := goodIn_r _ [7, 8, 2, 22, 23, 24, 25, 26, 27, 28, 29, 30, 31] (by decide +kernel) (by decide +kernel)
set_option maxRecDepth 20000 in
theorem gX0_lunarDayOf_X0_moonParts : GoodIn wsX0_lunarDayOf (wsV RX0 117 RX0 yX0_moonParts wsX0_moonParts) := goodIn_app (goodIn_of _ (by decide +kernel)) ggX0_lunarDayOf_X0_moonParts
set_option maxRecDepth 20000 in
theorem ggX0_lunarDayOf_X0_modulo : GoodIn wsX0_lunarDayOf wsX0_modulo := goodIn_r _ [11, 12, 13, 14, 15] (by decide +kernel) (by decide +kernel)
set_option maxRecDepth 20000 in
theorem gX0_lunarDayOf_X0_modulo : GoodIn wsX0_lunarDayOf (va_wsS RX0 71 yX0_modulo wsX0_modulo) := goodIn_app (goodIn_of _ (by decide +kernel)) ggX0_lunarDayOf_X0_modulo
set_option maxRecDepth 20000 in
theorem ggX0_lunarDayOf_X0_divide : GoodIn wsX0_lunarDayOf wsX0_divide := goodIn_r _ [18, 19, 20, 14, 21] (by decide +kernel) (by decide +kernel)
set_option maxRecDepth 20000 in
theorem gX0_lunarDayOf_X0_divide : GoodIn wsX0_lunarDayOf (va_wsS RX0 120 yX0_divide wsX0_divide) := goodIn_app (goodIn_of _ (by decide +kernel)) ggX0_lunarDayOf_X0_divide
theorem dX0_lunarDayOf_0 : decode cX0_lunarDayOf 0 = .ok (.aload_n 0, 1) := by decide +kernel
theorem dX0_lunarDayOf_1 : decode cX0_lunarDayOf 1 = .ok (.lload_n 1, 1) := by decide +kernel
theorem dX0_lunarDayOf_2 : decode cX0_lunarDayOf 2 = .ok (.invokevirtual 117, 3) := by decide +kernel
theorem dX0_lunarDayOf_5 : decode cX0_lunarDayOf 5 = .ok (.aload_n 0, 1) := by decide +kernel
theorem dX0_lunarDayOf_6 : decode cX0_lunarDayOf 6 = .ok (.getfield 20, 3) := by decide +kernel
theorem dX0_lunarDayOf_9 : decode cX0_lunarDayOf 9 = .ok (.i2l, 1) := by decide +kernel
theorem dX0_lunarDayOf_10 : decode cX0_lunarDayOf 10 = .ok (.invokestatic 71, 3) := by decide +kernel
theorem dX0_lunarDayOf_13 : decode cX0_lunarDayOf 13 = .ok (.aload_n 0, 1) := by decide +kernel
theorem dX0_lunarDayOf_14 : decode cX0_lunarDayOf 14 = .ok (.getfield 23, 3) := by decide +kernel
theorem dX0_lunarDayOf_17 : decode cX0_lunarDayOf 17 = .ok (.i2l, 1) := by decide +kernel
theorem dX0_lunarDayOf_18 : decode cX0_lunarDayOf 18 = .ok (.invokestatic 120, 3) := by decide +kernel
theorem dX0_lunarDayOf_21 : decode cX0_lunarDayOf 21 = .ok (.lreturn, 1) := by decide +kernel
set_option maxRecDepth 20000 in
theorem ggX0_yearBegin_X0_divide : GoodIn wsX0_yearBegin wsX0_divide := goodIn_r _ [8, 9, 10, 11, 12] (by decide +kernel) (by decide +kernel)
set_option maxRecDepth 20000 in
theorem gX0_yearBegin_X0_divide : GoodIn wsX0_yearBegin (va_wsS RX0 120 yX0_divide wsX0_divide) := goodIn_app (goodIn_of _ (by decide +kernel)) ggX0_yearBegin_X0_divide
theorem dX0_yearBegin_0 : decode cX0_yearBegin 0 = .ok (.aload_n 0, 1) := by decide +kernel
theorem dX0_yearBegin_1 : decode cX0_yearBegin 1 = .ok (.getfield 29, 3) := by decide +kernel
theorem dX0_yearBegin_4 : decode cX0_yearBegin 4 = .ok (.iload_n 1, 1) := by decide +kernel
theorem dX0_yearBegin_5 : decode cX0_yearBegin 5 = .ok (.imul, 1) := by decide +kernel
theorem dX0_yearBegin_6 : decode cX0_yearBegin 6 = .ok (.aload_n 0, 1) := by decide +kernel
theorem dX0_yearBegin_7 : decode cX0_yearBegin 7 = .ok (.getfield 32, 3) := by decide +kernel
theorem dX0_yearBegin_10 : decode cX0_yearBegin 10 = .ok (.iload_n 1, 1) := by decide +kernel
theorem dX0_yearBegin_11 : decode cX0_yearBegin 11 = .ok (.imul, 1) := by decide +kernel
theorem dX0_yearBegin_12 : decode cX0_yearBegin 12 = .ok (.aload_n 0, 1) := by decide +kernel
theorem dX0_yearBegin_13 : decode cX0_yearBegin 13 = .ok (.getfield 35, 3) := by decide +kernel
theorem dX0_yearBegin_16 : decode cX0_yearBegin 16 = .ok (.iadd, 1) := by decide +kernel
theorem dX0_yearBegin_17 : decode cX0_yearBegin 17 = .ok (.i2l, 1) := by decide +kernel
theorem dX0_yearBegin_18 : decode cX0_yearBegin 18 = .ok (.aload_n 0, 1) := by decide +kernel
theorem dX0_yearBegin_19 : decode cX0_yearBegin 19 = .ok (.getfield 38, 3) := by decide +kernel
theorem dX0_yearBegin_22 : decode cX0_yearBegin 22 = .ok (.i2l, 1) := by decide +kernel
theorem dX0_yearBegin_23 : decode cX0_yearBegin 23 = .ok (.invokestatic 120, 3) := by decide +kernel
theorem dX0_yearBegin_26 : decode cX0_yearBegin 26 = .ok (.l2i, 1) := by decide +kernel
theorem dX0_yearBegin_27 : decode cX0_yearBegin 27 = .ok (.iadd, 1) := by decide +kernel
theorem dX0_yearBegin_28 : decode cX0_yearBegin 28 = .ok (.ireturn, 1) := by decide +kernel
set_option maxRecDepth 20000 in
theorem ggX0_yearOf_X0_divide : GoodIn wsX0_yearOf wsX0_divide := goodIn_r _ [8, 9, 10, 11, 12] (by decide +kernel) (by decide +kernel)
set_option maxRecDepth 20000 in
theorem gX0_yearOf_X0_divide : GoodIn wsX0_yearOf (va_wsS RX0 120 yX0_divide wsX0_divide) := goodIn_app (goodIn_of _ (by decide +kernel)) ggX0_yearOf_X0_divide
theorem dX0_yearOf_0 : decode cX0_yearOf 0 = .ok (.aload_n 0, 1) := by decide +kernel
theorem dX0_yearOf_1 : decode cX0_yearOf 1 = .ok (.getfield 38, 3) := by decide +kernel
theorem dX0_yearOf_4 : decode cX0_yearOf 4 = .ok (.i2l, 1) := by decide +kernel
theorem dX0_yearOf_5 : decode cX0_yearOf 5 = .ok (.iload_n 1, 1) := by decide +kernel
theorem dX0_yearOf_6 : decode cX0_yearOf 6 = .ok (.iconst 1, 1) := by decide +kernel
theorem dX0_yearOf_7 : decode cX0_yearOf 7 = .ok (.iadd, 1) := by decide +kernel
theorem dX0_yearOf_8 : decode cX0_yearOf 8 = .ok (.i2l, 1) := by decide +kernel
theorem dX0_yearOf_9 : decode cX0_yearOf 9 = .ok (.lmul, 1) := by decide +kernel
theorem dX0_yearOf_10 : decode cX0_yearOf 10 = .ok (.lconst 1, 1) := by decide +kernel
theorem dX0_yearOf_11 : decode cX0_yearOf 11 = .ok (.lsub, 1) := by decide +kernel
theorem dX0_yearOf_12 : decode cX0_yearOf 12 = .ok (.aload_n 0, 1) := by decide +kernel
theorem dX0_yearOf_13 : decode cX0_yearOf 13 = .ok (.getfield 35, 3) := by decide +kernel
theorem dX0_yearOf_16 : decode cX0_yearOf 16 = .ok (.i2l, 1) := by decide +kernel
theorem dX0_yearOf_17 : decode cX0_yearOf 17 = .ok (.lsub, 1) := by decide +kernel
theorem dX0_yearOf_18 : decode cX0_yearOf 18 = .ok (.lstore_n 2, 1) := by decide +kernel
theorem dX0_yearOf_19 : decode cX0_yearOf 19 = .ok (.lload_n 2, 1) := by decide +kernel
theorem dX0_yearOf_20 : decode cX0_yearOf 20 = .ok (.aload_n 0, 1) := by decide +kernel
theorem dX0_yearOf_21 : decode cX0_yearOf 21 = .ok (.getfield 29, 3) := by decide +kernel
theorem dX0_yearOf_24 : decode cX0_yearOf 24 = .ok (.i2l, 1) := by decide +kernel
theorem dX0_yearOf_25 : decode cX0_yearOf 25 = .ok (.aload_n 0, 1) := by decide +kernel
theorem dX0_yearOf_26 : decode cX0_yearOf 26 = .ok (.getfield 38, 3) := by decide +kernel
theorem dX0_yearOf_29 : decode cX0_yearOf 29 = .ok (.i2l, 1) := by decide +kernel
theorem dX0_yearOf_30 : decode cX0_yearOf 30 = .ok (.lmul, 1) := by decide +kernel
theorem dX0_yearOf_31 : decode cX0_yearOf 31 = .ok (.aload_n 0, 1) := by decide +kernel
theorem dX0_yearOf_32 : decode cX0_yearOf 32 = .ok (.getfield 32, 3) := by decide +kernel
theorem dX0_yearOf_35 : decode cX0_yearOf 35 = .ok (.i2l, 1) := by decide +kernel
theorem dX0_yearOf_36 : decode cX0_yearOf 36 = .ok (.ladd, 1) := by decide +kernel
theorem dX0_yearOf_37 : decode cX0_yearOf 37 = .ok (.invokestatic 120, 3) := by decide +kernel
theorem dX0_yearOf_40 : decode cX0_yearOf 40 = .ok (.l2i, 1) := by decide +kernel
theorem dX0_yearOf_41 : decode cX0_yearOf 41 = .ok (.ireturn, 1) := by decide +kernel
set_option maxRecDepth 20000 in
theorem ggX0_hasLeapDay_X0_modulo : GoodIn wsX0_hasLeapDay wsX0_modulo := goodIn_r _ [7, 8, 9, 10, 11] (by decide +kernel) (by decide +kernel)
set_option maxRecDepth 20000 in
theorem gX0_hasLeapDay_X0_modulo : GoodIn wsX0_hasLeapDay (va_wsS RX0 71 yX0_modulo wsX0_modulo) := goodIn_app (goodIn_of _ (by decide +kernel)) ggX0_hasLeapDay_X0_modulo
theorem dX0_hasLeapDay_0 : decode cX0_hasLeapDay 0 = .ok (.aload_n 0, 1) := by decide +kernel
theorem dX0_hasLeapDay_1 : decode cX0_hasLeapDay 1 = .ok (.getfield 32, 3) := by decide +kernel
theorem dX0_hasLeapDay_4 : decode cX0_hasLeapDay 4 = .ok (.iload_n 1, 1) := by decide +kernel
theorem dX0_hasLeapDay_5 : decode cX0_hasLeapDay 5 = .ok (.imul, 1) := by decide +kernel
theorem dX0_hasLeapDay_6 : decode cX0_hasLeapDay 6 = .ok (.aload_n 0, 1) := by decide +kernel
theorem dX0_hasLeapDay_7 : decode cX0_hasLeapDay 7 = .ok (.getfield 35, 3) := by decide +kernel
theorem dX0_hasLeapDay_10 : decode cX0_hasLeapDay 10 = .ok (.iadd, 1) := by decide +kernel
theorem dX0_hasLeapDay_11 : decode cX0_hasLeapDay 11 = .ok (.i2l, 1) := by decide +kernel
theorem dX0_hasLeapDay_12 : decode cX0_hasLeapDay 12 = .ok (.aload_n 0, 1) := by decide +kernel
theorem dX0_hasLeapDay_13 : decode cX0_hasLeapDay 13 = .ok (.getfield 38, 3) := by decide +kernel
theorem dX0_hasLeapDay_16 : decode cX0_hasLeapDay 16 = .ok (.i2l, 1) := by decide +kernel
theorem dX0_hasLeapDay_17 : decode cX0_hasLeapDay 17 = .ok (.invokestatic 71, 3) := by decide +kernel
theorem dX0_hasLeapDay_20 : decode cX0_hasLeapDay 20 = .ok (.aload_n 0, 1) := by decide +kernel
theorem dX0_hasLeapDay_21 : decode cX0_hasLeapDay 21 = .ok (.getfield 38, 3) := by decide +kernel
theorem dX0_hasLeapDay_24 : decode cX0_hasLeapDay 24 = .ok (.aload_n 0, 1) := by decide +kernel
theorem dX0_hasLeapDay_25 : decode cX0_hasLeapDay 25 = .ok (.getfield 32, 3) := by decide +kernel
theorem dX0_hasLeapDay_28 : decode cX0_hasLeapDay 28 = .ok (.isub, 1) := by decide +kernel
theorem dX0_hasLeapDay_29 : decode cX0_hasLeapDay 29 = .ok (.i2l, 1) := by decide +kernel
theorem dX0_hasLeapDay_30 : decode cX0_hasLeapDay 30 = .ok (.lcmp, 1) := by decide +kernel
theorem dX0_hasLeapDay_31 : decode cX0_hasLeapDay 31 = .ok (.ifCond .lt 7, 3) := by decide +kernel
theorem dX0_hasLeapDay_34 : decode cX0_hasLeapDay 34 = .ok (.iconst 1, 1) := by decide +kernel
theorem dX0_hasLeapDay_35 : decode cX0_hasLeapDay 35 = .ok (.goto 4, 3) := by decide +kernel
theorem dX0_hasLeapDay_38 : decode cX0_hasLeapDay 38 = .ok (.iconst 0, 1) := by decide +kernel
theorem dX0_hasLeapDay_39 : decode cX0_hasLeapDay 39 = .ok (.ireturn, 1) := by decide +kernel
theorem dX0_isWithin_0 : decode cX0_isWithin 0 = .ok (.iload_n 0, 1) := by decide +kernel
theorem dX0_isWithin_1 : decode cX0_isWithin 1 = .ok (.iload_n 1, 1) := by decide +kernel
theorem dX0_isWithin_2 : decode cX0_isWithin 2 = .ok (.if_icmp .lt 12, 3) := by decide +kernel
theorem dX0_isWithin_5 : decode cX0_isWithin 5 = .ok (.iload_n 0, 1) := by decide +kernel
theorem dX0_isWithin_6 : decode cX0_isWithin 6 = .ok (.iload_n 2, 1) := by decide +kernel
theorem dX0_isWithin_7 : decode cX0_isWithin 7 = .ok (.if_icmp .gt 7, 3) := by decide +kernel
theorem dX0_isWithin_10 : decode cX0_isWithin 10 = .ok (.iconst 1, 1) := by decide +kernel
theorem dX0_isWithin_11 : decode cX0_isWithin 11 = .ok (.goto 4, 3) := by decide +kernel
theorem dX0_isWithin_14 : decode cX0_isWithin 14 = .ok (.iconst 0, 1) := by decide +kernel
theorem dX0_isWithin_15 : decode cX0_isWithin 15 = .ok (.ireturn, 1) := by decide +kernel
set_option maxRecDepth 20000 in
theorem ggX0_divide_J9_floorDiv_f86c9 : GoodIn wsX0_divide wsJ9_floorDiv_f86c9 := goodIn_r _ [4] (by decide +kernel) (by decide +kernel)
set_option maxRecDepth 20000 in
theorem gX0_divide_J9_floorDiv_f86c9 : GoodIn wsX0_divide (va_wsS RX0 161 yJ9_floorDiv_f86c9 wsJ9_floorDiv_f86c9) := goodIn_app (goodIn_of _ (by decide +kernel)) ggX0_divide_J9_floorDiv_f86c9
theorem dX0_divide_0 : decode cX0_divide 0 = .ok (.lload_n 2, 1) := by decide +kernel
theorem dX0_divide_1 : decode cX0_divide 1 = .ok (.lconst 0, 1) := by decide +kernel
theorem dX0_divide_2 : decode cX0_divide 2 = .ok (.lcmp, 1) := by decide +kernel
theorem dX0_divide_3 : decode cX0_divide 3 = .ok (.ifCond .le 11, 3) := by decide +kernel
theorem dX0_divide_6 : decode cX0_divide 6 = .ok (.lload_n 0, 1) := by decide +kernel
theorem dX0_divide_7 : decode cX0_divide 7 = .ok (.lload_n 2, 1) := by decide +kernel
theorem dX0_divide_8 : decode cX0_divide 8 = .ok (.invokestatic 161, 3) := by decide +kernel
theorem dX0_divide_11 : decode cX0_divide 11 = .ok (.goto 4, 3) := by decide +kernel
theorem dX0_divide_14 : decode cX0_divide 14 = .ok (.lconst 0, 1) := by decide +kernel
theorem dX0_divide_15 : decode cX0_divide 15 = .ok (.lreturn, 1) := by decide +kernel
set_option maxRecDepth 20000 in
theorem ggX0_modulo_J9_floorMod_f86c9 : GoodIn wsX0_modulo wsJ9_floorMod_f86c9 := goodIn_r _ [4] (by decide +kernel) (by decide +kernel)
set_option maxRecDepth 20000 in
theorem gX0_modulo_J9_floorMod_f86c9 : GoodIn wsX0_modulo (va_wsS RX0 166 yJ9_floorMod_f86c9 wsJ9_floorMod_f86c9) := goodIn_app (goodIn_of _ (by decide +kernel)) ggX0_modulo_J9_floorMod_f86c9
theorem dX0_modulo_0 : decode cX0_modulo 0 = .ok (.lload_n 2, 1) := by decide +kernel
theorem dX0_modulo_1 : decode cX0_modulo 1 = .ok (.lconst 0, 1) := by decide +kernel
theorem dX0_modulo_2 : decode cX0_modulo 2 = .ok (.lcmp, 1) := by decide +kernel
theorem dX0_modulo_3 : decode cX0_modulo 3 = .ok (.ifCond .le 11, 3) := by decide +kernel
theorem dX0_modulo_6 : decode cX0_modulo 6 = .ok (.lload_n 0, 1) := by decide +kernel
theorem dX0_modulo_7 : decode cX0_modulo 7 = .ok (.lload_n 2, 1) := by decide +kernel
theorem dX0_modulo_8 : decode cX0_modulo 8 = .ok (.invokestatic 166, 3) := by decide +kernel
theorem dX0_modulo_11 : decode cX0_modulo 11 = .ok (.goto 4, 3) := by decide +kernel
theorem dX0_modulo_14 : decode cX0_modulo 14 = .ok (.lconst 0, 1) := by decide +kernel
theorem dX0_modulo_15 : decode cX0_modulo 15 = .ok (.lreturn, 1) := by decide +kernel
theorem dX1_init_0 : decode cX1_init 0 = .ok (.aload_n 0, 1) := by decide +kernel
theorem dX1_init_1 : decode cX1_init 1 = .ok (.invokespecial 1, 3) := by decide +kernel
theorem dX1_init_4 : decode cX1_init 4 = .ok (.aload_n 0, 1) := by decide +kernel
theorem dX1_init_5 : decode cX1_init 5 = .ok (.bipush 16, 2) := by decide +kernel
theorem dX1_init_7 : decode cX1_init 7 = .ok (.newarray .int, 2) := by decide +kernel
theorem dX1_init_9 : decode cX1_init 9 = .ok (.putfield 7, 3) := by decide +kernel
theorem dX1_init_12 : decode cX1_init 12 = .ok (.aload_n 0, 1) := by decide +kernel
theorem dX1_init_13 : decode cX1_init 13 = .ok (.bipush 16, 2) := by decide +kernel
theorem dX1_init_15 : decode cX1_init 15 = .ok (.newarray .int, 2) := by decide +kernel
theorem dX1_init_17 : decode cX1_init 17 = .ok (.putfield 13, 3) := by decide +kernel
theorem dX1_init_20 : decode cX1_init 20 = .ok (.aload_n 0, 1) := by decide +kernel
theorem dX1_init_21 : decode cX1_init 21 = .ok (.sipush 1447, 3) := by decide +kernel
theorem dX1_init_24 : decode cX1_init 24 = .ok (.putfield 16, 3) := by decide +kernel
theorem dX1_init_27 : decode cX1_init 27 = .ok (.aload_n 0, 1) := by decide +kernel
theorem dX1_init_28 : decode cX1_init 28 = .ok (.bipush 49, 2) := by decide +kernel
theorem dX1_init_30 : decode cX1_init 30 = .ok (.putfield 20, 3) := by decide +kernel
theorem dX1_init_33 : decode cX1_init 33 = .ok (.aload_n 0, 1) := by decide +kernel
theorem dX1_init_34 : decode cX1_init 34 = .ok (.sipush 365, 3) := by decide +kernel
theorem dX1_init_37 : decode cX1_init 37 = .ok (.putfield 23, 3) := by decide +kernel
theorem dX1_init_40 : decode cX1_init 40 = .ok (.aload_n 0, 1) := by decide +kernel
theorem dX1_init_41 : decode cX1_init 41 = .ok (.bipush 8, 2) := by decide +kernel
theorem dX1_init_43 : decode cX1_init 43 = .ok (.putfield 26, 3) := by decide +kernel
theorem dX1_init_46 : decode cX1_init 46 = .ok (.aload_n 0, 1) := by decide +kernel
theorem dX1_init_47 : decode cX1_init 47 = .ok (.bipush 33, 2) := by decide +kernel
theorem dX1_init_49 : decode cX1_init 49 = .ok (.putfield 29, 3) := by decide +kernel
theorem dX1_init_52 : decode cX1_init 52 = .ok (.return_, 1) := by decide +kernel
theorem dX1_thrown_0 : decode cX1_thrown 0 = .ok (.aload_n 0, 1) := by decide +kernel
theorem dX1_thrown_1 : decode cX1_thrown 1 = .ok (.getfield 32, 3) := by decide +kernel
theorem dX1_thrown_4 : decode cX1_thrown 4 = .ok (.ireturn, 1) := by decide +kernel
theorem dX1_goesWell_0 : decode cX1_goesWell 0 = .ok (.aload_n 0, 1) := by decide +kernel
theorem dX1_goesWell_1 : decode cX1_goesWell 1 = .ok (.iload_n 1, 1) := by decide +kernel
theorem dX1_goesWell_2 : decode cX1_goesWell 2 = .ok (.putfield 32, 3) := by decide +kernel
theorem dX1_goesWell_5 : decode cX1_goesWell 5 = .ok (.iload_n 1, 1) := by decide +kernel
theorem dX1_goesWell_6 : decode cX1_goesWell 6 = .ok (.ifCond .ne 7, 3) := by decide +kernel
theorem dX1_goesWell_9 : decode cX1_goesWell 9 = .ok (.iconst 1, 1) := by decide +kernel
theorem dX1_goesWell_10 : decode cX1_goesWell 10 = .ok (.goto 4, 3) := by decide +kernel
theorem dX1_goesWell_13 : decode cX1_goesWell 13 = .ok (.iconst 0, 1) := by decide +kernel
theorem dX1_goesWell_14 : decode cX1_goesWell 14 = .ok (.ireturn, 1) := by decide +kernel
theorem dX1_in_0 : decode cX1_in 0 = .ok (.lload_n 0, 1) := by decide +kernel
theorem dX1_in_1 : decode cX1_in 1 = .ok (.lload_n 2, 1) := by decide +kernel
theorem dX1_in_2 : decode cX1_in 2 = .ok (.lcmp, 1) := by decide +kernel
theorem dX1_in_3 : decode cX1_in 3 = .ok (.ifCond .lt 14, 3) := by decide +kernel
theorem dX1_in_6 : decode cX1_in 6 = .ok (.lload_n 0, 1) := by decide +kernel
theorem dX1_in_7 : decode cX1_in 7 = .ok (.lload 4, 2) := by decide +kernel
theorem dX1_in_9 : decode cX1_in 9 = .ok (.lcmp, 1) := by decide +kernel
theorem dX1_in_10 : decode cX1_in 10 = .ok (.ifCond .gt 7, 3) := by decide +kernel
theorem dX1_in_13 : decode cX1_in 13 = .ok (.iconst 1, 1) := by decide +kernel
theorem dX1_in_14 : decode cX1_in 14 = .ok (.goto 4, 3) := by decide +kernel
theorem dX1_in_17 : decode cX1_in 17 = .ok (.iconst 0, 1) := by decide +kernel
theorem dX1_in_18 : decode cX1_in 18 = .ok (.ireturn, 1) := by decide +kernel
set_option maxRecDepth 20000 in
theorem ggX1_isDay_X1_in : GoodIn wsX1_isDay wsX1_in := goodIn_r _ [6] (by decide +kernel) (by decide +kernel)
set_option maxRecDepth 20000 in
theorem gX1_isDay_X1_in : GoodIn wsX1_isDay (va_wsS RX1 39 yX1_in wsX1_in) := goodIn_app (goodIn_of _ (by decide +kernel)) ggX1_isDay_X1_in
theorem dX1_isDay_0 : decode cX1_isDay 0 = .ok (.iload_n 0, 1) := by decide +kernel
theorem dX1_isDay_1 : decode cX1_isDay 1 = .ok (.i2l, 1) := by decide +kernel
theorem dX1_isDay_2 : decode cX1_isDay 2 = .ok (.ldc2_w 35, 3) := by decide +kernel
theorem dX1_isDay_5 : decode cX1_isDay 5 = .ok (.ldc2_w 37, 3) := by decide +kernel
theorem dX1_isDay_8 : decode cX1_isDay 8 = .ok (.invokestatic 39, 3) := by decide +kernel
theorem dX1_isDay_11 : decode cX1_isDay 11 = .ok (.ireturn, 1) := by decide +kernel
set_option maxRecDepth 20000 in
theorem ggX1_isMarket_X1_in : GoodIn wsX1_isMarket wsX1_in := goodIn_r _ [5] (by decide +kernel) (by decide +kernel)
set_option maxRecDepth 20000 in
theorem gX1_isMarket_X1_in : GoodIn wsX1_isMarket (va_wsS RX1 39 yX1_in wsX1_in) := goodIn_app (goodIn_of _ (by decide +kernel)) ggX1_isMarket_X1_in
theorem dX1_isMarket_0 : decode cX1_isMarket 0 = .ok (.iload_n 1, 1) := by decide +kernel
theorem dX1_isMarket_1 : decode cX1_isMarket 1 = .ok (.i2l, 1) := by decide +kernel
theorem dX1_isMarket_2 : decode cX1_isMarket 2 = .ok (.lconst 0, 1) := by decide +kernel
theorem dX1_isMarket_3 : decode cX1_isMarket 3 = .ok (.aload_n 0, 1) := by decide +kernel
theorem dX1_isMarket_4 : decode cX1_isMarket 4 = .ok (.getfield 43, 3) := by decide +kernel
theorem dX1_isMarket_7 : decode cX1_isMarket 7 = .ok (.iconst 1, 1) := by decide +kernel
theorem dX1_isMarket_8 : decode cX1_isMarket 8 = .ok (.isub, 1) := by decide +kernel
theorem dX1_isMarket_9 : decode cX1_isMarket 9 = .ok (.i2l, 1) := by decide +kernel
theorem dX1_isMarket_10 : decode cX1_isMarket 10 = .ok (.invokestatic 39, 3) := by decide +kernel
theorem dX1_isMarket_13 : decode cX1_isMarket 13 = .ok (.ireturn, 1) := by decide +kernel
set_option maxRecDepth 20000 in
theorem ggX1_part_X1_modulo : GoodIn wsX1_part wsX1_modulo := goodIn_r _ [4] (by decide +kernel) (by decide +kernel)
set_option maxRecDepth 20000 in
theorem gX1_part_X1_modulo : GoodIn wsX1_part (va_wsS RX1 46 yX1_modulo wsX1_modulo) := goodIn_app (goodIn_of _ (by decide +kernel)) ggX1_part_X1_modulo
theorem dX1_part_0 : decode cX1_part 0 = .ok (.lload_n 0, 1) := by decide +kernel
theorem dX1_part_1 : decode cX1_part 1 = .ok (.lload_n 2, 1) := by decide +kernel
theorem dX1_part_2 : decode cX1_part 2 = .ok (.invokestatic 46, 3) := by decide +kernel
theorem dX1_part_5 : decode cX1_part 5 = .ok (.lstore 4, 2) := by decide +kernel
theorem dX1_part_7 : decode cX1_part 7 = .ok (.lload_n 0, 1) := by decide +kernel
theorem dX1_part_8 : decode cX1_part 8 = .ok (.lload 4, 2) := by decide +kernel
theorem dX1_part_10 : decode cX1_part 10 = .ok (.lsub, 1) := by decide +kernel
theorem dX1_part_11 : decode cX1_part 11 = .ok (.lload_n 2, 1) := by decide +kernel
theorem dX1_part_12 : decode cX1_part 12 = .ok (.ldiv, 1) := by decide +kernel
theorem dX1_part_13 : decode cX1_part 13 = .ok (.lreturn, 1) := by decide +kernel
theorem dX1_modulo_0 : decode cX1_modulo 0 = .ok (.lload_n 0, 1) := by decide +kernel
theorem dX1_modulo_1 : decode cX1_modulo 1 = .ok (.lload_n 2, 1) := by decide +kernel
theorem dX1_modulo_2 : decode cX1_modulo 2 = .ok (.lrem, 1) := by decide +kernel
theorem dX1_modulo_3 : decode cX1_modulo 3 = .ok (.lstore 4, 2) := by decide +kernel
theorem dX1_modulo_5 : decode cX1_modulo 5 = .ok (.lload 4, 2) := by decide +kernel
theorem dX1_modulo_7 : decode cX1_modulo 7 = .ok (.lconst 0, 1) := by decide +kernel
theorem dX1_modulo_8 : decode cX1_modulo 8 = .ok (.lcmp, 1) := by decide +kernel
theorem dX1_modulo_9 : decode cX1_modulo 9 = .ok (.ifCond .ge 10, 3) := by decide +kernel
theorem dX1_modulo_12 : decode cX1_modulo 12 = .ok (.lload 4, 2) := by decide +kernel
theorem dX1_modulo_14 : decode cX1_modulo 14 = .ok (.lload_n 2, 1) := by decide +kernel
theorem dX1_modulo_15 : decode cX1_modulo 15 = .ok (.ladd, 1) := by decide +kernel
theorem dX1_modulo_16 : decode cX1_modulo 16 = .ok (.goto 5, 3) := by decide +kernel
theorem dX1_modulo_19 : decode cX1_modulo 19 = .ok (.lload 4, 2) := by decide +kernel
theorem dX1_modulo_21 : decode cX1_modulo 21 = .ok (.lreturn, 1) := by decide +kernel
set_option maxRecDepth 20000 in
theorem ggX1_addMarket_X1_in : GoodIn wsX1_addMarket wsX1_in := goodIn_r _ [8] (by decide +kernel) (by decide +kernel)
set_option maxRecDepth 20000 in
theorem gX1_addMarket_X1_in : GoodIn wsX1_addMarket (va_wsS RX1 39 yX1_in wsX1_in) := goodIn_app (goodIn_of _ (by decide +kernel)) ggX1_addMarket_X1_in
set_option maxRecDepth 20000 in
theorem ggX1_addMarket_X1_goesWell : GoodIn wsX1_addMarket wsX1_goesWell := goodIn_r _ [12, 13, 14, 15, 16, 17, 18, 19, 20, 21, 22, 23, 24, 25, 26] (by decide +kernel) (by decide +kernel)
set_option maxRecDepth 20000 in
theorem gX1_addMarket_X1_goesWell : GoodIn wsX1_addMarket (wsV RX1 52 RX1 yX1_goesWell wsX1_goesWell) := goodIn_app (goodIn_of _ (by decide +kernel)) ggX1_addMarket_X1_goesWell
theorem dX1_addMarket_0 : decode cX1_addMarket 0 = .ok (.aload_n 0, 1) := by decide +kernel
theorem dX1_addMarket_1 : decode cX1_addMarket 1 = .ok (.iload_n 1, 1) := by decide +kernel
theorem dX1_addMarket_2 : decode cX1_addMarket 2 = .ok (.i2l, 1) := by decide +kernel
theorem dX1_addMarket_3 : decode cX1_addMarket 3 = .ok (.lconst 1, 1) := by decide +kernel
theorem dX1_addMarket_4 : decode cX1_addMarket 4 = .ok (.ldc2_w 50, 3) := by decide +kernel
theorem dX1_addMarket_7 : decode cX1_addMarket 7 = .ok (.invokestatic 39, 3) := by decide +kernel
theorem dX1_addMarket_10 : decode cX1_addMarket 10 = .ok (.ifCond .eq 16, 3) := by decide +kernel
theorem dX1_addMarket_13 : decode cX1_addMarket 13 = .ok (.iload_n 2, 1) := by decide +kernel
theorem dX1_addMarket_14 : decode cX1_addMarket 14 = .ok (.i2l, 1) := by decide +kernel
theorem dX1_addMarket_15 : decode cX1_addMarket 15 = .ok (.lconst 0, 1) := by decide +kernel
theorem dX1_addMarket_16 : decode cX1_addMarket 16 = .ok (.iload_n 1, 1) := by decide +kernel
theorem dX1_addMarket_17 : decode cX1_addMarket 17 = .ok (.iconst 1, 1) := by decide +kernel
theorem dX1_addMarket_18 : decode cX1_addMarket 18 = .ok (.isub, 1) := by decide +kernel
theorem dX1_addMarket_19 : decode cX1_addMarket 19 = .ok (.i2l, 1) := by decide +kernel
theorem dX1_addMarket_20 : decode cX1_addMarket 20 = .ok (.invokestatic 39, 3) := by decide +kernel
theorem dX1_addMarket_23 : decode cX1_addMarket 23 = .ok (.ifCond .ne 7, 3) := by decide +kernel
theorem dX1_addMarket_26 : decode cX1_addMarket 26 = .ok (.iconst 1, 1) := by decide +kernel
theorem dX1_addMarket_27 : decode cX1_addMarket 27 = .ok (.goto 17, 3) := by decide +kernel
theorem dX1_addMarket_30 : decode cX1_addMarket 30 = .ok (.aload_n 0, 1) := by decide +kernel
theorem dX1_addMarket_31 : decode cX1_addMarket 31 = .ok (.getfield 43, 3) := by decide +kernel
theorem dX1_addMarket_34 : decode cX1_addMarket 34 = .ok (.bipush 16, 2) := by decide +kernel
theorem dX1_addMarket_36 : decode cX1_addMarket 36 = .ok (.if_icmp .ne 7, 3) := by decide +kernel
theorem dX1_addMarket_39 : decode cX1_addMarket 39 = .ok (.iconst 2, 1) := by decide +kernel
theorem dX1_addMarket_40 : decode cX1_addMarket 40 = .ok (.goto 4, 3) := by decide +kernel
theorem dX1_addMarket_43 : decode cX1_addMarket 43 = .ok (.iconst 0, 1) := by decide +kernel
theorem dX1_addMarket_44 : decode cX1_addMarket 44 = .ok (.invokevirtual 52, 3) := by decide +kernel
theorem dX1_addMarket_47 : decode cX1_addMarket 47 = .ok (.ifCond .ne 5, 3) := by decide +kernel
theorem dX1_addMarket_50 : decode cX1_addMarket 50 = .ok (.iconst 0, 1) := by decide +kernel
theorem dX1_addMarket_51 : decode cX1_addMarket 51 = .ok (.ireturn, 1) := by decide +kernel
theorem dX1_addMarket_52 : decode cX1_addMarket 52 = .ok (.aload_n 0, 1) := by decide +kernel
theorem dX1_addMarket_53 : decode cX1_addMarket 53 = .ok (.getfield 7, 3) := by decide +kernel
theorem dX1_addMarket_56 : decode cX1_addMarket 56 = .ok (.aload_n 0, 1) := by decide +kernel
theorem dX1_addMarket_57 : decode cX1_addMarket 57 = .ok (.getfield 43, 3) := by decide +kernel
theorem dX1_addMarket_60 : decode cX1_addMarket 60 = .ok (.iload_n 1, 1) := by decide +kernel
theorem dX1_addMarket_61 : decode cX1_addMarket 61 = .ok (.iastore, 1) := by decide +kernel
theorem dX1_addMarket_62 : decode cX1_addMarket 62 = .ok (.aload_n 0, 1) := by decide +kernel
theorem dX1_addMarket_63 : decode cX1_addMarket 63 = .ok (.getfield 13, 3) := by decide +kernel
theorem dX1_addMarket_66 : decode cX1_addMarket 66 = .ok (.aload_n 0, 1) := by decide +kernel
theorem dX1_addMarket_67 : decode cX1_addMarket 67 = .ok (.getfield 43, 3) := by decide +kernel
theorem dX1_addMarket_70 : decode cX1_addMarket 70 = .ok (.iload_n 2, 1) := by decide +kernel
theorem dX1_addMarket_71 : decode cX1_addMarket 71 = .ok (.iastore, 1) := by decide +kernel
theorem dX1_addMarket_72 : decode cX1_addMarket 72 = .ok (.aload_n 0, 1) := by decide +kernel
theorem dX1_addMarket_73 : decode cX1_addMarket 73 = .ok (.dup, 1) := by decide +kernel
theorem dX1_addMarket_74 : decode cX1_addMarket 74 = .ok (.getfield 43, 3) := by decide +kernel
theorem dX1_addMarket_77 : decode cX1_addMarket 77 = .ok (.iconst 1, 1) := by decide +kernel
theorem dX1_addMarket_78 : decode cX1_addMarket 78 = .ok (.iadd, 1) := by decide +kernel
theorem dX1_addMarket_79 : decode cX1_addMarket 79 = .ok (.putfield 43, 3) := by decide +kernel
theorem dX1_addMarket_82 : decode cX1_addMarket 82 = .ok (.aload_n 0, 1) := by decide +kernel
theorem dX1_addMarket_83 : decode cX1_addMarket 83 = .ok (.getfield 43, 3) := by decide +kernel
theorem dX1_addMarket_86 : decode cX1_addMarket 86 = .ok (.iconst 1, 1) := by decide +kernel
theorem dX1_addMarket_87 : decode cX1_addMarket 87 = .ok (.isub, 1) := by decide +kernel
theorem dX1_addMarket_88 : decode cX1_addMarket 88 = .ok (.ireturn, 1) := by decide +kernel
set_option maxRecDepth 20000 in
theorem ggX1_shift_X1_isMarket : GoodIn wsX1_shift wsX1_isMarket := goodIn_r _ [9, 10, 11, 12, 8, 13, 22, 23, 24, 25, 26, 27, 28, 29, 30, 31, 32, 33, 34] (by decide +kernel) (by decide +kernel)
set_option maxRecDepth 20000 in
theorem gX1_shift_X1_isMarket : GoodIn wsX1_shift (wsV RX1 56 RX1 yX1_isMarket wsX1_isMarket) := goodIn_app (goodIn_of _ (by decide +kernel)) ggX1_shift_X1_isMarket
set_option maxRecDepth 20000 in
theorem ggX1_shift_X1_in : GoodIn wsX1_shift wsX1_in := goodIn_r _ [13] (by decide +kernel) (by decide +kernel)
set_option maxRecDepth 20000 in
theorem gX1_shift_X1_in : GoodIn wsX1_shift (va_wsS RX1 39 yX1_in wsX1_in) := goodIn_app (goodIn_of _ (by decide +kernel)) ggX1_shift_X1_in
set_option maxRecDepth 20000 in
theorem ggX1_shift_X1_goesWell : GoodIn wsX1_shift wsX1_goesWell := goodIn_r _ [17, 18, 22, 23, 24, 25, 26, 27, 28, 29, 30, 31, 32, 33, 34] (by decide +kernel) (by decide +kernel)
set_option maxRecDepth 20000 in
theorem gX1_shift_X1_goesWell : GoodIn wsX1_shift (wsV RX1 52 RX1 yX1_goesWell wsX1_goesWell) := goodIn_app (goodIn_of _ (by decide +kernel)) ggX1_shift_X1_goesWell
set_option maxRecDepth 20000 in
theorem ggX1_shift_X1_modulo : GoodIn wsX1_shift wsX1_modulo := goodIn_r _ [21] (by decide +kernel) (by decide +kernel)
set_option maxRecDepth 20000 in
theorem gX1_shift_X1_modulo : GoodIn wsX1_shift (va_wsS RX1 46 yX1_modulo wsX1_modulo) := goodIn_app (goodIn_of _ (by decide +kernel)) ggX1_shift_X1_modulo
theorem dX1_shift_0 : decode cX1_shift 0 = .ok (.aload_n 0, 1) := by decide +kernel
theorem dX1_shift_1 : decode cX1_shift 1 = .ok (.aload_n 0, 1) := by decide +kernel
theorem dX1_shift_2 : decode cX1_shift 2 = .ok (.iload_n 1, 1) := by decide +kernel
theorem dX1_shift_3 : decode cX1_shift 3 = .ok (.invokevirtual 56, 3) := by decide +kernel
theorem dX1_shift_6 : decode cX1_shift 6 = .ok (.ifCond .ne 7, 3) := by decide +kernel
theorem dX1_shift_9 : decode cX1_shift 9 = .ok (.iconst 1, 1) := by decide +kernel
theorem dX1_shift_10 : decode cX1_shift 10 = .ok (.goto 22, 3) := by decide +kernel
theorem dX1_shift_13 : decode cX1_shift 13 = .ok (.iload_n 2, 1) := by decide +kernel
theorem dX1_shift_14 : decode cX1_shift 14 = .ok (.i2l, 1) := by decide +kernel
theorem dX1_shift_15 : decode cX1_shift 15 = .ok (.ldc2_w 59, 3) := by decide +kernel
theorem dX1_shift_18 : decode cX1_shift 18 = .ok (.ldc2_w 50, 3) := by decide +kernel
theorem dX1_shift_21 : decode cX1_shift 21 = .ok (.invokestatic 39, 3) := by decide +kernel
theorem dX1_shift_24 : decode cX1_shift 24 = .ok (.ifCond .eq 7, 3) := by decide +kernel
theorem dX1_shift_27 : decode cX1_shift 27 = .ok (.iconst 0, 1) := by decide +kernel
theorem dX1_shift_28 : decode cX1_shift 28 = .ok (.goto 4, 3) := by decide +kernel
theorem dX1_shift_31 : decode cX1_shift 31 = .ok (.iconst 2, 1) := by decide +kernel
theorem dX1_shift_32 : decode cX1_shift 32 = .ok (.invokevirtual 52, 3) := by decide +kernel
theorem dX1_shift_35 : decode cX1_shift 35 = .ok (.ifCond .ne 5, 3) := by decide +kernel
theorem dX1_shift_38 : decode cX1_shift 38 = .ok (.iconst 0, 1) := by decide +kernel
theorem dX1_shift_39 : decode cX1_shift 39 = .ok (.ireturn, 1) := by decide +kernel
theorem dX1_shift_40 : decode cX1_shift 40 = .ok (.aload_n 0, 1) := by decide +kernel
theorem dX1_shift_41 : decode cX1_shift 41 = .ok (.getfield 13, 3) := by decide +kernel
theorem dX1_shift_44 : decode cX1_shift 44 = .ok (.iload_n 1, 1) := by decide +kernel
theorem dX1_shift_45 : decode cX1_shift 45 = .ok (.aload_n 0, 1) := by decide +kernel
theorem dX1_shift_46 : decode cX1_shift 46 = .ok (.getfield 13, 3) := by decide +kernel
theorem dX1_shift_49 : decode cX1_shift 49 = .ok (.iload_n 1, 1) := by decide +kernel
theorem dX1_shift_50 : decode cX1_shift 50 = .ok (.iaload, 1) := by decide +kernel
theorem dX1_shift_51 : decode cX1_shift 51 = .ok (.iload_n 2, 1) := by decide +kernel
theorem dX1_shift_52 : decode cX1_shift 52 = .ok (.iadd, 1) := by decide +kernel
theorem dX1_shift_53 : decode cX1_shift 53 = .ok (.i2l, 1) := by decide +kernel
theorem dX1_shift_54 : decode cX1_shift 54 = .ok (.aload_n 0, 1) := by decide +kernel
theorem dX1_shift_55 : decode cX1_shift 55 = .ok (.getfield 7, 3) := by decide +kernel
theorem dX1_shift_58 : decode cX1_shift 58 = .ok (.iload_n 1, 1) := by decide +kernel
theorem dX1_shift_59 : decode cX1_shift 59 = .ok (.iaload, 1) := by decide +kernel
theorem dX1_shift_60 : decode cX1_shift 60 = .ok (.i2l, 1) := by decide +kernel
theorem dX1_shift_61 : decode cX1_shift 61 = .ok (.invokestatic 46, 3) := by decide +kernel
theorem dX1_shift_64 : decode cX1_shift 64 = .ok (.l2i, 1) := by decide +kernel
theorem dX1_shift_65 : decode cX1_shift 65 = .ok (.iastore, 1) := by decide +kernel
theorem dX1_shift_66 : decode cX1_shift 66 = .ok (.aload_n 0, 1) := by decide +kernel
theorem dX1_shift_67 : decode cX1_shift 67 = .ok (.getfield 13, 3) := by decide +kernel
theorem dX1_shift_70 : decode cX1_shift 70 = .ok (.iload_n 1, 1) := by decide +kernel
theorem dX1_shift_71 : decode cX1_shift 71 = .ok (.iaload, 1) := by decide +kernel
theorem dX1_shift_72 : decode cX1_shift 72 = .ok (.ireturn, 1) := by decide +kernel
set_option maxRecDepth 20000 in
theorem ggX1_setMoon_X1_in : GoodIn wsX1_setMoon wsX1_in := goodIn_r _ [11] (by decide +kernel) (by decide +kernel)
set_option maxRecDepth 20000 in
theorem gX1_setMoon_X1_in : GoodIn wsX1_setMoon (va_wsS RX1 39 yX1_in wsX1_in) := goodIn_app (goodIn_of _ (by decide +kernel)) ggX1_setMoon_X1_in
set_option maxRecDepth 20000 in
theorem ggX1_setMoon_X1_goesWell : GoodIn wsX1_setMoon wsX1_goesWell := goodIn_r _ [15, 16, 17, 18, 19, 20, 21, 22, 23, 24, 25, 26, 27, 28, 29] (by decide +kernel) (by decide +kernel)
set_option maxRecDepth 20000 in
theorem gX1_setMoon_X1_goesWell : GoodIn wsX1_setMoon (wsV RX1 52 RX1 yX1_goesWell wsX1_goesWell) := goodIn_app (goodIn_of _ (by decide +kernel)) ggX1_setMoon_X1_goesWell
theorem dX1_setMoon_0 : decode cX1_setMoon 0 = .ok (.iload_n 2, 1) := by decide +kernel
theorem dX1_setMoon_1 : decode cX1_setMoon 1 = .ok (.i2l, 1) := by decide +kernel
theorem dX1_setMoon_2 : decode cX1_setMoon 2 = .ok (.lconst 1, 1) := by decide +kernel
theorem dX1_setMoon_3 : decode cX1_setMoon 3 = .ok (.ldc2_w 61, 3) := by decide +kernel
theorem dX1_setMoon_6 : decode cX1_setMoon 6 = .ok (.invokestatic 39, 3) := by decide +kernel
theorem dX1_setMoon_9 : decode cX1_setMoon 9 = .ok (.ifCond .eq 41, 3) := by decide +kernel
theorem dX1_setMoon_12 : decode cX1_setMoon 12 = .ok (.iload_n 1, 1) := by decide +kernel
theorem dX1_setMoon_13 : decode cX1_setMoon 13 = .ok (.i2l, 1) := by decide +kernel
theorem dX1_setMoon_14 : decode cX1_setMoon 14 = .ok (.ldc2_w 63, 3) := by decide +kernel
theorem dX1_setMoon_17 : decode cX1_setMoon 17 = .ok (.iload_n 2, 1) := by decide +kernel
theorem dX1_setMoon_18 : decode cX1_setMoon 18 = .ok (.i2l, 1) := by decide +kernel
theorem dX1_setMoon_19 : decode cX1_setMoon 19 = .ok (.lmul, 1) := by decide +kernel
theorem dX1_setMoon_20 : decode cX1_setMoon 20 = .ok (.ldc2_w 61, 3) := by decide +kernel
theorem dX1_setMoon_23 : decode cX1_setMoon 23 = .ok (.iload_n 2, 1) := by decide +kernel
theorem dX1_setMoon_24 : decode cX1_setMoon 24 = .ok (.i2l, 1) := by decide +kernel
theorem dX1_setMoon_25 : decode cX1_setMoon 25 = .ok (.lmul, 1) := by decide +kernel
theorem dX1_setMoon_26 : decode cX1_setMoon 26 = .ok (.invokestatic 39, 3) := by decide +kernel
theorem dX1_setMoon_29 : decode cX1_setMoon 29 = .ok (.ifCond .eq 21, 3) := by decide +kernel
theorem dX1_setMoon_32 : decode cX1_setMoon 32 = .ok (.iload_n 3, 1) := by decide +kernel
theorem dX1_setMoon_33 : decode cX1_setMoon 33 = .ok (.i2l, 1) := by decide +kernel
theorem dX1_setMoon_34 : decode cX1_setMoon 34 = .ok (.ldc2_w 65, 3) := by decide +kernel
theorem dX1_setMoon_37 : decode cX1_setMoon 37 = .ok (.ldc2_w 67, 3) := by decide +kernel
theorem dX1_setMoon_40 : decode cX1_setMoon 40 = .ok (.invokestatic 39, 3) := by decide +kernel
theorem dX1_setMoon_43 : decode cX1_setMoon 43 = .ok (.ifCond .eq 7, 3) := by decide +kernel
theorem dX1_setMoon_46 : decode cX1_setMoon 46 = .ok (.iconst 1, 1) := by decide +kernel
theorem dX1_setMoon_47 : decode cX1_setMoon 47 = .ok (.goto 4, 3) := by decide +kernel
theorem dX1_setMoon_50 : decode cX1_setMoon 50 = .ok (.iconst 0, 1) := by decide +kernel
theorem dX1_setMoon_51 : decode cX1_setMoon 51 = .ok (.istore 4, 2) := by decide +kernel
theorem dX1_setMoon_53 : decode cX1_setMoon 53 = .ok (.aload_n 0, 1) := by decide +kernel
theorem dX1_setMoon_54 : decode cX1_setMoon 54 = .ok (.iload 4, 2) := by decide +kernel
theorem dX1_setMoon_56 : decode cX1_setMoon 56 = .ok (.ifCond .eq 7, 3) := by decide +kernel
theorem dX1_setMoon_59 : decode cX1_setMoon 59 = .ok (.iconst 0, 1) := by decide +kernel
theorem dX1_setMoon_60 : decode cX1_setMoon 60 = .ok (.goto 4, 3) := by decide +kernel
theorem dX1_setMoon_63 : decode cX1_setMoon 63 = .ok (.iconst 1, 1) := by decide +kernel
theorem dX1_setMoon_64 : decode cX1_setMoon 64 = .ok (.invokevirtual 52, 3) := by decide +kernel
theorem dX1_setMoon_67 : decode cX1_setMoon 67 = .ok (.ifCond .eq 18, 3) := by decide +kernel
theorem dX1_setMoon_70 : decode cX1_setMoon 70 = .ok (.aload_n 0, 1) := by decide +kernel
theorem dX1_setMoon_71 : decode cX1_setMoon 71 = .ok (.iload_n 1, 1) := by decide +kernel
theorem dX1_setMoon_72 : decode cX1_setMoon 72 = .ok (.putfield 16, 3) := by decide +kernel
theorem dX1_setMoon_75 : decode cX1_setMoon 75 = .ok (.aload_n 0, 1) := by decide +kernel
theorem dX1_setMoon_76 : decode cX1_setMoon 76 = .ok (.iload_n 2, 1) := by decide +kernel
theorem dX1_setMoon_77 : decode cX1_setMoon 77 = .ok (.putfield 20, 3) := by decide +kernel
theorem dX1_setMoon_80 : decode cX1_setMoon 80 = .ok (.aload_n 0, 1) := by decide +kernel
theorem dX1_setMoon_81 : decode cX1_setMoon 81 = .ok (.iload_n 3, 1) := by decide +kernel
theorem dX1_setMoon_82 : decode cX1_setMoon 82 = .ok (.putfield 69, 3) := by decide +kernel
theorem dX1_setMoon_85 : decode cX1_setMoon 85 = .ok (.return_, 1) := by decide +kernel
set_option maxRecDepth 20000 in
theorem ggX1_setYear_X1_in : GoodIn wsX1_setYear wsX1_in := goodIn_r _ [11] (by decide +kernel) (by decide +kernel)
set_option maxRecDepth 20000 in
theorem gX1_setYear_X1_in : GoodIn wsX1_setYear (va_wsS RX1 39 yX1_in wsX1_in) := goodIn_app (goodIn_of _ (by decide +kernel)) ggX1_setYear_X1_in
set_option maxRecDepth 20000 in
theorem ggX1_setYear_X1_goesWell : GoodIn wsX1_setYear wsX1_goesWell := goodIn_r _ [15, 16, 17, 18, 19, 20, 21, 22, 23, 24, 25, 26, 27, 28, 29] (by decide +kernel) (by decide +kernel)
set_option maxRecDepth 20000 in
theorem gX1_setYear_X1_goesWell : GoodIn wsX1_setYear (wsV RX1 52 RX1 yX1_goesWell wsX1_goesWell) := goodIn_app (goodIn_of _ (by decide +kernel)) ggX1_setYear_X1_goesWell
theorem dX1_setYear_0 : decode cX1_setYear 0 = .ok (.iload_n 1, 1) := by decide +kernel
theorem dX1_setYear_1 : decode cX1_setYear 1 = .ok (.i2l, 1) := by decide +kernel
theorem dX1_setYear_2 : decode cX1_setYear 2 = .ok (.ldc2_w 61, 3) := by decide +kernel
theorem dX1_setYear_5 : decode cX1_setYear 5 = .ok (.ldc2_w 72, 3) := by decide +kernel
theorem dX1_setYear_8 : decode cX1_setYear 8 = .ok (.invokestatic 39, 3) := by decide +kernel
theorem dX1_setYear_11 : decode cX1_setYear 11 = .ok (.ifCond .eq 46, 3) := by decide +kernel
theorem dX1_setYear_14 : decode cX1_setYear 14 = .ok (.iload 4, 2) := by decide +kernel
theorem dX1_setYear_16 : decode cX1_setYear 16 = .ok (.i2l, 1) := by decide +kernel
theorem dX1_setYear_17 : decode cX1_setYear 17 = .ok (.lconst 1, 1) := by decide +kernel
theorem dX1_setYear_18 : decode cX1_setYear 18 = .ok (.ldc2_w 74, 3) := by decide +kernel
theorem dX1_setYear_21 : decode cX1_setYear 21 = .ok (.invokestatic 39, 3) := by decide +kernel
theorem dX1_setYear_24 : decode cX1_setYear 24 = .ok (.ifCond .eq 33, 3) := by decide +kernel
theorem dX1_setYear_27 : decode cX1_setYear 27 = .ok (.iload_n 2, 1) := by decide +kernel
theorem dX1_setYear_28 : decode cX1_setYear 28 = .ok (.i2l, 1) := by decide +kernel
theorem dX1_setYear_29 : decode cX1_setYear 29 = .ok (.lconst 0, 1) := by decide +kernel
theorem dX1_setYear_30 : decode cX1_setYear 30 = .ok (.iload 4, 2) := by decide +kernel
theorem dX1_setYear_32 : decode cX1_setYear 32 = .ok (.i2l, 1) := by decide +kernel
theorem dX1_setYear_33 : decode cX1_setYear 33 = .ok (.invokestatic 39, 3) := by decide +kernel
theorem dX1_setYear_36 : decode cX1_setYear 36 = .ok (.ifCond .eq 21, 3) := by decide +kernel
theorem dX1_setYear_39 : decode cX1_setYear 39 = .ok (.iload_n 3, 1) := by decide +kernel
theorem dX1_setYear_40 : decode cX1_setYear 40 = .ok (.i2l, 1) := by decide +kernel
theorem dX1_setYear_41 : decode cX1_setYear 41 = .ok (.lconst 0, 1) := by decide +kernel
theorem dX1_setYear_42 : decode cX1_setYear 42 = .ok (.iload 4, 2) := by decide +kernel
theorem dX1_setYear_44 : decode cX1_setYear 44 = .ok (.iconst 1, 1) := by decide +kernel
theorem dX1_setYear_45 : decode cX1_setYear 45 = .ok (.isub, 1) := by decide +kernel
theorem dX1_setYear_46 : decode cX1_setYear 46 = .ok (.i2l, 1) := by decide +kernel
theorem dX1_setYear_47 : decode cX1_setYear 47 = .ok (.invokestatic 39, 3) := by decide +kernel
theorem dX1_setYear_50 : decode cX1_setYear 50 = .ok (.ifCond .eq 7, 3) := by decide +kernel
theorem dX1_setYear_53 : decode cX1_setYear 53 = .ok (.iconst 1, 1) := by decide +kernel
theorem dX1_setYear_54 : decode cX1_setYear 54 = .ok (.goto 4, 3) := by decide +kernel
theorem dX1_setYear_57 : decode cX1_setYear 57 = .ok (.iconst 0, 1) := by decide +kernel
theorem dX1_setYear_58 : decode cX1_setYear 58 = .ok (.istore 5, 2) := by decide +kernel
theorem dX1_setYear_60 : decode cX1_setYear 60 = .ok (.aload_n 0, 1) := by decide +kernel
theorem dX1_setYear_61 : decode cX1_setYear 61 = .ok (.iload 5, 2) := by decide +kernel
theorem dX1_setYear_63 : decode cX1_setYear 63 = .ok (.ifCond .eq 7, 3) := by decide +kernel
theorem dX1_setYear_66 : decode cX1_setYear 66 = .ok (.iconst 0, 1) := by decide +kernel
theorem dX1_setYear_67 : decode cX1_setYear 67 = .ok (.goto 4, 3) := by decide +kernel
theorem dX1_setYear_70 : decode cX1_setYear 70 = .ok (.iconst 1, 1) := by decide +kernel
theorem dX1_setYear_71 : decode cX1_setYear 71 = .ok (.invokevirtual 52, 3) := by decide +kernel
theorem dX1_setYear_74 : decode cX1_setYear 74 = .ok (.ifCond .eq 24, 3) := by decide +kernel
theorem dX1_setYear_77 : decode cX1_setYear 77 = .ok (.aload_n 0, 1) := by decide +kernel
theorem dX1_setYear_78 : decode cX1_setYear 78 = .ok (.iload_n 1, 1) := by decide +kernel
theorem dX1_setYear_79 : decode cX1_setYear 79 = .ok (.putfield 23, 3) := by decide +kernel
theorem dX1_setYear_82 : decode cX1_setYear 82 = .ok (.aload_n 0, 1) := by decide +kernel
theorem dX1_setYear_83 : decode cX1_setYear 83 = .ok (.iload_n 2, 1) := by decide +kernel
theorem dX1_setYear_84 : decode cX1_setYear 84 = .ok (.putfield 26, 3) := by decide +kernel
theorem dX1_setYear_87 : decode cX1_setYear 87 = .ok (.aload_n 0, 1) := by decide +kernel
theorem dX1_setYear_88 : decode cX1_setYear 88 = .ok (.iload_n 3, 1) := by decide +kernel
theorem dX1_setYear_89 : decode cX1_setYear 89 = .ok (.putfield 76, 3) := by decide +kernel
theorem dX1_setYear_92 : decode cX1_setYear 92 = .ok (.aload_n 0, 1) := by decide +kernel
theorem dX1_setYear_93 : decode cX1_setYear 93 = .ok (.iload 4, 2) := by decide +kernel
theorem dX1_setYear_95 : decode cX1_setYear 95 = .ok (.putfield 29, 3) := by decide +kernel
theorem dX1_setYear_98 : decode cX1_setYear 98 = .ok (.return_, 1) := by decide +kernel
theorem dX1_markets_0 : decode cX1_markets 0 = .ok (.aload_n 0, 1) := by decide +kernel
theorem dX1_markets_1 : decode cX1_markets 1 = .ok (.iconst 0, 1) := by decide +kernel
theorem dX1_markets_2 : decode cX1_markets 2 = .ok (.putfield 32, 3) := by decide +kernel
theorem dX1_markets_5 : decode cX1_markets 5 = .ok (.aload_n 0, 1) := by decide +kernel
theorem dX1_markets_6 : decode cX1_markets 6 = .ok (.getfield 43, 3) := by decide +kernel
theorem dX1_markets_9 : decode cX1_markets 9 = .ok (.ireturn, 1) := by decide +kernel
set_option maxRecDepth 20000 in
theorem ggX1_holds_X1_modulo : GoodIn wsX1_holds wsX1_modulo := goodIn_r _ [6] (by decide +kernel) (by decide +kernel)
set_option maxRecDepth 20000 in
theorem gX1_holds_X1_modulo : GoodIn wsX1_holds (va_wsS RX1 46 yX1_modulo wsX1_modulo) := goodIn_app (goodIn_of _ (by decide +kernel)) ggX1_holds_X1_modulo
theorem dX1_holds_0 : decode cX1_holds 0 = .ok (.lload_n 2, 1) := by decide +kernel
theorem dX1_holds_1 : decode cX1_holds 1 = .ok (.aload_n 0, 1) := by decide +kernel
theorem dX1_holds_2 : decode cX1_holds 2 = .ok (.getfield 7, 3) := by decide +kernel
theorem dX1_holds_5 : decode cX1_holds 5 = .ok (.iload_n 1, 1) := by decide +kernel
theorem dX1_holds_6 : decode cX1_holds 6 = .ok (.iaload, 1) := by decide +kernel
theorem dX1_holds_7 : decode cX1_holds 7 = .ok (.i2l, 1) := by decide +kernel
theorem dX1_holds_8 : decode cX1_holds 8 = .ok (.invokestatic 46, 3) := by decide +kernel
theorem dX1_holds_11 : decode cX1_holds 11 = .ok (.aload_n 0, 1) := by decide +kernel
theorem dX1_holds_12 : decode cX1_holds 12 = .ok (.getfield 13, 3) := by decide +kernel
theorem dX1_holds_15 : decode cX1_holds 15 = .ok (.iload_n 1, 1) := by decide +kernel
theorem dX1_holds_16 : decode cX1_holds 16 = .ok (.iaload, 1) := by decide +kernel
theorem dX1_holds_17 : decode cX1_holds 17 = .ok (.i2l, 1) := by decide +kernel
theorem dX1_holds_18 : decode cX1_holds 18 = .ok (.lcmp, 1) := by decide +kernel
theorem dX1_holds_19 : decode cX1_holds 19 = .ok (.ifCond .ne 7, 3) := by decide +kernel
theorem dX1_holds_22 : decode cX1_holds 22 = .ok (.iconst 1, 1) := by decide +kernel
theorem dX1_holds_23 : decode cX1_holds 23 = .ok (.goto 4, 3) := by decide +kernel
theorem dX1_holds_26 : decode cX1_holds 26 = .ok (.iconst 0, 1) := by decide +kernel
theorem dX1_holds_27 : decode cX1_holds 27 = .ok (.ireturn, 1) := by decide +kernel
set_option maxRecDepth 20000 in
theorem ggX1_isHeld_X1_isMarket : GoodIn wsX1_isHeld wsX1_isMarket := goodIn_r _ [5, 6, 7, 8, 4, 9, 29, 30, 31, 32, 33, 34, 35, 36, 37, 38, 39, 40, 41] (by decide +kernel) (by decide +kernel)
set_option maxRecDepth 20000 in
theorem gX1_isHeld_X1_isMarket : GoodIn wsX1_isHeld (wsV RX1 56 RX1 yX1_isMarket wsX1_isMarket) := goodIn_app (goodIn_of _ (by decide +kernel)) ggX1_isHeld_X1_isMarket
set_option maxRecDepth 20000 in
theorem ggX1_isHeld_X1_isDay : GoodIn wsX1_isHeld wsX1_isDay := goodIn_r _ [12, 13, 14, 7, 8, 4, 9] (by decide +kernel) (by decide +kernel)
set_option maxRecDepth 20000 in
theorem gX1_isHeld_X1_isDay : GoodIn wsX1_isHeld (va_wsS RX1 79 yX1_isDay wsX1_isDay) := goodIn_app (goodIn_of _ (by decide +kernel)) ggX1_isHeld_X1_isDay
set_option maxRecDepth 20000 in
theorem ggX1_isHeld_X1_goesWell : GoodIn wsX1_isHeld wsX1_goesWell := goodIn_r _ [18, 19, 29, 30, 31, 32, 33, 34, 35, 36, 37, 38, 39, 40, 41] (by decide +kernel) (by decide +kernel)
set_option maxRecDepth 20000 in
theorem gX1_isHeld_X1_goesWell : GoodIn wsX1_isHeld (wsV RX1 52 RX1 yX1_goesWell wsX1_goesWell) := goodIn_app (goodIn_of _ (by decide +kernel)) ggX1_isHeld_X1_goesWell
set_option maxRecDepth 20000 in
theorem ggX1_isHeld_X1_holds : GoodIn wsX1_isHeld wsX1_holds := goodIn_r _ [23, 24, 25, 26, 27, 4, 28, 29, 30, 31, 32, 33, 34, 35, 36, 37, 38, 39, 40, 41] (by decide +kernel) (by decide +kernel)
set_option maxRecDepth 20000 in
theorem gX1_isHeld_X1_holds : GoodIn wsX1_isHeld (wsV RX1 82 RX1 yX1_holds wsX1_holds) := goodIn_app (goodIn_of _ (by decide +kernel)) ggX1_isHeld_X1_holds
theorem dX1_isHeld_0 : decode cX1_isHeld 0 = .ok (.aload_n 0, 1) := by decide +kernel
theorem dX1_isHeld_1 : decode cX1_isHeld 1 = .ok (.aload_n 0, 1) := by decide +kernel
theorem dX1_isHeld_2 : decode cX1_isHeld 2 = .ok (.iload_n 1, 1) := by decide +kernel
theorem dX1_isHeld_3 : decode cX1_isHeld 3 = .ok (.invokevirtual 56, 3) := by decide +kernel
theorem dX1_isHeld_6 : decode cX1_isHeld 6 = .ok (.ifCond .ne 7, 3) := by decide +kernel
theorem dX1_isHeld_9 : decode cX1_isHeld 9 = .ok (.iconst 1, 1) := by decide +kernel
theorem dX1_isHeld_10 : decode cX1_isHeld 10 = .ok (.goto 15, 3) := by decide +kernel
theorem dX1_isHeld_13 : decode cX1_isHeld 13 = .ok (.iload_n 2, 1) := by decide +kernel
theorem dX1_isHeld_14 : decode cX1_isHeld 14 = .ok (.invokestatic 79, 3) := by decide +kernel
theorem dX1_isHeld_17 : decode cX1_isHeld 17 = .ok (.ifCond .eq 7, 3) := by decide +kernel
theorem dX1_isHeld_20 : decode cX1_isHeld 20 = .ok (.iconst 0, 1) := by decide +kernel
theorem dX1_isHeld_21 : decode cX1_isHeld 21 = .ok (.goto 4, 3) := by decide +kernel
theorem dX1_isHeld_24 : decode cX1_isHeld 24 = .ok (.iconst 2, 1) := by decide +kernel
theorem dX1_isHeld_25 : decode cX1_isHeld 25 = .ok (.invokevirtual 52, 3) := by decide +kernel
theorem dX1_isHeld_28 : decode cX1_isHeld 28 = .ok (.ifCond .eq 17, 3) := by decide +kernel
theorem dX1_isHeld_31 : decode cX1_isHeld 31 = .ok (.aload_n 0, 1) := by decide +kernel
theorem dX1_isHeld_32 : decode cX1_isHeld 32 = .ok (.iload_n 1, 1) := by decide +kernel
theorem dX1_isHeld_33 : decode cX1_isHeld 33 = .ok (.iload_n 2, 1) := by decide +kernel
theorem dX1_isHeld_34 : decode cX1_isHeld 34 = .ok (.i2l, 1) := by decide +kernel
theorem dX1_isHeld_35 : decode cX1_isHeld 35 = .ok (.invokevirtual 82, 3) := by decide +kernel
theorem dX1_isHeld_38 : decode cX1_isHeld 38 = .ok (.ifCond .eq 7, 3) := by decide +kernel
theorem dX1_isHeld_41 : decode cX1_isHeld 41 = .ok (.iconst 1, 1) := by decide +kernel
theorem dX1_isHeld_42 : decode cX1_isHeld 42 = .ok (.goto 4, 3) := by decide +kernel
theorem dX1_isHeld_45 : decode cX1_isHeld 45 = .ok (.iconst 0, 1) := by decide +kernel
theorem dX1_isHeld_46 : decode cX1_isHeld 46 = .ok (.ireturn, 1) := by decide +kernel
set_option maxRecDepth 20000 in
theorem ggX1_from_X1_holds : GoodIn wsX1_from wsX1_holds := goodIn_r _ [5, 6, 7, 8, 9, 4, 10, 11, 12, 13, 14, 15, 16, 17, 18, 19, 20, 21, 22, 23] (by decide +kernel) (by decide +kernel)
set_option maxRecDepth 20000 in
theorem gX1_from_X1_holds : GoodIn wsX1_from (wsV RX1 82 RX1 yX1_holds wsX1_holds) := goodIn_app (goodIn_of _ (by decide +kernel)) ggX1_from_X1_holds
theorem dX1_from_0 : decode cX1_from 0 = .ok (.iload_n 2, 1) := by decide +kernel
theorem dX1_from_1 : decode cX1_from 1 = .ok (.istore_n 3, 1) := by decide +kernel
theorem dX1_from_2 : decode cX1_from 2 = .ok (.aload_n 0, 1) := by decide +kernel
theorem dX1_from_3 : decode cX1_from 3 = .ok (.iload_n 1, 1) := by decide +kernel
theorem dX1_from_4 : decode cX1_from 4 = .ok (.iload_n 3, 1) := by decide +kernel
theorem dX1_from_5 : decode cX1_from 5 = .ok (.i2l, 1) := by decide +kernel
theorem dX1_from_6 : decode cX1_from 6 = .ok (.invokevirtual 82, 3) := by decide +kernel
theorem dX1_from_9 : decode cX1_from 9 = .ok (.ifCond .ne 9, 3) := by decide +kernel
theorem dX1_from_12 : decode cX1_from 12 = .ok (.iinc 3 1, 3) := by decide +kernel
theorem dX1_from_15 : decode cX1_from 15 = .ok (.goto (-13), 3) := by decide +kernel
theorem dX1_from_18 : decode cX1_from 18 = .ok (.iload_n 3, 1) := by decide +kernel
theorem dX1_from_19 : decode cX1_from 19 = .ok (.ireturn, 1) := by decide +kernel
set_option maxRecDepth 20000 in
theorem ggX1_next_X1_isMarket : GoodIn wsX1_next wsX1_isMarket := goodIn_r _ [5, 6, 7, 8, 4, 9, 33, 34, 35, 36, 37, 38, 39, 40, 41, 42, 43, 44, 45] (by decide +kernel) (by decide +kernel)
set_option maxRecDepth 20000 in
theorem gX1_next_X1_isMarket : GoodIn wsX1_next (wsV RX1 56 RX1 yX1_isMarket wsX1_isMarket) := goodIn_app (goodIn_of _ (by decide +kernel)) ggX1_next_X1_isMarket
set_option maxRecDepth 20000 in
theorem ggX1_next_X1_isDay : GoodIn wsX1_next wsX1_isDay := goodIn_r _ [12, 13, 14, 7, 8, 4, 9] (by decide +kernel) (by decide +kernel)
set_option maxRecDepth 20000 in
theorem gX1_next_X1_isDay : GoodIn wsX1_next (va_wsS RX1 79 yX1_isDay wsX1_isDay) := goodIn_app (goodIn_of _ (by decide +kernel)) ggX1_next_X1_isDay
set_option maxRecDepth 20000 in
theorem ggX1_next_X1_goesWell : GoodIn wsX1_next wsX1_goesWell := goodIn_r _ [18, 19, 33, 34, 35, 36, 37, 38, 39, 40, 41, 42, 43, 44, 45] (by decide +kernel) (by decide +kernel)
set_option maxRecDepth 20000 in
theorem gX1_next_X1_goesWell : GoodIn wsX1_next (wsV RX1 52 RX1 yX1_goesWell wsX1_goesWell) := goodIn_app (goodIn_of _ (by decide +kernel)) ggX1_next_X1_goesWell
set_option maxRecDepth 20000 in
theorem ggX1_next_X1_from : GoodIn wsX1_next wsX1_from := goodIn_r _ [23, 24, 25, 26, 4, 27, 28, 29, 30, 31, 32, 33, 34, 35, 36, 37, 38, 39, 40, 41, 42, 43, 44, 45] (by decide +kernel) (by decide +kernel)
set_option maxRecDepth 20000 in
theorem gX1_next_X1_from : GoodIn wsX1_next (wsV RX1 86 RX1 yX1_from wsX1_from) := goodIn_app (goodIn_of _ (by decide +kernel)) ggX1_next_X1_from
theorem dX1_next_0 : decode cX1_next 0 = .ok (.aload_n 0, 1) := by decide +kernel
theorem dX1_next_1 : decode cX1_next 1 = .ok (.aload_n 0, 1) := by decide +kernel
theorem dX1_next_2 : decode cX1_next 2 = .ok (.iload_n 1, 1) := by decide +kernel
theorem dX1_next_3 : decode cX1_next 3 = .ok (.invokevirtual 56, 3) := by decide +kernel
theorem dX1_next_6 : decode cX1_next 6 = .ok (.ifCond .ne 7, 3) := by decide +kernel
theorem dX1_next_9 : decode cX1_next 9 = .ok (.iconst 1, 1) := by decide +kernel
theorem dX1_next_10 : decode cX1_next 10 = .ok (.goto 15, 3) := by decide +kernel
theorem dX1_next_13 : decode cX1_next 13 = .ok (.iload_n 2, 1) := by decide +kernel
theorem dX1_next_14 : decode cX1_next 14 = .ok (.invokestatic 79, 3) := by decide +kernel
theorem dX1_next_17 : decode cX1_next 17 = .ok (.ifCond .eq 7, 3) := by decide +kernel
theorem dX1_next_20 : decode cX1_next 20 = .ok (.iconst 0, 1) := by decide +kernel
theorem dX1_next_21 : decode cX1_next 21 = .ok (.goto 4, 3) := by decide +kernel
theorem dX1_next_24 : decode cX1_next 24 = .ok (.iconst 2, 1) := by decide +kernel
theorem dX1_next_25 : decode cX1_next 25 = .ok (.invokevirtual 52, 3) := by decide +kernel
theorem dX1_next_28 : decode cX1_next 28 = .ok (.ifCond .eq 12, 3) := by decide +kernel
theorem dX1_next_31 : decode cX1_next 31 = .ok (.aload_n 0, 1) := by decide +kernel
theorem dX1_next_32 : decode cX1_next 32 = .ok (.iload_n 1, 1) := by decide +kernel
theorem dX1_next_33 : decode cX1_next 33 = .ok (.iload_n 2, 1) := by decide +kernel
theorem dX1_next_34 : decode cX1_next 34 = .ok (.invokevirtual 86, 3) := by decide +kernel
theorem dX1_next_37 : decode cX1_next 37 = .ok (.goto 4, 3) := by decide +kernel
theorem dX1_next_40 : decode cX1_next 40 = .ok (.iconst 0, 1) := by decide +kernel
theorem dX1_next_41 : decode cX1_next 41 = .ok (.ireturn, 1) := by decide +kernel
set_option maxRecDepth 20000 in
theorem ggX1_nearest_X1_isMarket : GoodIn wsX1_nearest wsX1_isMarket := goodIn_r _ [5, 6, 7, 8, 4, 9, 29, 30, 31, 32, 33, 34, 35, 36, 37, 38, 39, 40, 41] (by decide +kernel) (by decide +kernel)
set_option maxRecDepth 20000 in
theorem gX1_nearest_X1_isMarket : GoodIn wsX1_nearest (wsV RX1 56 RX1 yX1_isMarket wsX1_isMarket) := goodIn_app (goodIn_of _ (by decide +kernel)) ggX1_nearest_X1_isMarket
set_option maxRecDepth 20000 in
theorem ggX1_nearest_X1_isDay : GoodIn wsX1_nearest wsX1_isDay := goodIn_r _ [12, 13, 14, 7, 8, 4, 9] (by decide +kernel) (by decide +kernel)
set_option maxRecDepth 20000 in
theorem gX1_nearest_X1_isDay : GoodIn wsX1_nearest (va_wsS RX1 79 yX1_isDay wsX1_isDay) := goodIn_app (goodIn_of _ (by decide +kernel)) ggX1_nearest_X1_isDay
set_option maxRecDepth 20000 in
theorem ggX1_nearest_X1_goesWell : GoodIn wsX1_nearest wsX1_goesWell := goodIn_r _ [18, 19, 29, 30, 31, 32, 33, 34, 35, 36, 37, 38, 39, 40, 41] (by decide +kernel) (by decide +kernel)
set_option maxRecDepth 20000 in
theorem gX1_nearest_X1_goesWell : GoodIn wsX1_nearest (wsV RX1 52 RX1 yX1_goesWell wsX1_goesWell) := goodIn_app (goodIn_of _ (by decide +kernel)) ggX1_nearest_X1_goesWell
set_option maxRecDepth 20000 in
theorem ggX1_nearest_X1_holds : GoodIn wsX1_nearest wsX1_holds := goodIn_r _ [23, 24, 25, 26, 27, 4, 28, 29, 30, 31, 32, 33, 34, 35, 36, 37, 38, 39, 40, 41] (by decide +kernel) (by decide +kernel)
set_option maxRecDepth 20000 in
theorem gX1_nearest_X1_holds : GoodIn wsX1_nearest (wsV RX1 82 RX1 yX1_holds wsX1_holds) := goodIn_app (goodIn_of _ (by decide +kernel)) ggX1_nearest_X1_holds
theorem dX1_nearest_0 : decode cX1_nearest 0 = .ok (.aload_n 0, 1) := by decide +kernel
theorem dX1_nearest_1 : decode cX1_nearest 1 = .ok (.aload_n 0, 1) := by decide +kernel
theorem dX1_nearest_2 : decode cX1_nearest 2 = .ok (.iload_n 1, 1) := by decide +kernel
theorem dX1_nearest_3 : decode cX1_nearest 3 = .ok (.invokevirtual 56, 3) := by decide +kernel
theorem dX1_nearest_6 : decode cX1_nearest 6 = .ok (.ifCond .ne 7, 3) := by decide +kernel
theorem dX1_nearest_9 : decode cX1_nearest 9 = .ok (.iconst 1, 1) := by decide +kernel
theorem dX1_nearest_10 : decode cX1_nearest 10 = .ok (.goto 15, 3) := by decide +kernel
theorem dX1_nearest_13 : decode cX1_nearest 13 = .ok (.iload_n 2, 1) := by decide +kernel
theorem dX1_nearest_14 : decode cX1_nearest 14 = .ok (.invokestatic 79, 3) := by decide +kernel
theorem dX1_nearest_17 : decode cX1_nearest 17 = .ok (.ifCond .eq 7, 3) := by decide +kernel
theorem dX1_nearest_20 : decode cX1_nearest 20 = .ok (.iconst 0, 1) := by decide +kernel
theorem dX1_nearest_21 : decode cX1_nearest 21 = .ok (.goto 4, 3) := by decide +kernel
theorem dX1_nearest_24 : decode cX1_nearest 24 = .ok (.iconst 2, 1) := by decide +kernel
theorem dX1_nearest_25 : decode cX1_nearest 25 = .ok (.invokevirtual 52, 3) := by decide +kernel
theorem dX1_nearest_28 : decode cX1_nearest 28 = .ok (.ifCond .ne 5, 3) := by decide +kernel
theorem dX1_nearest_31 : decode cX1_nearest 31 = .ok (.iconst 0, 1) := by decide +kernel
theorem dX1_nearest_32 : decode cX1_nearest 32 = .ok (.ireturn, 1) := by decide +kernel
theorem dX1_nearest_33 : decode cX1_nearest 33 = .ok (.iconst 0, 1) := by decide +kernel
theorem dX1_nearest_34 : decode cX1_nearest 34 = .ok (.istore_n 3, 1) := by decide +kernel
theorem dX1_nearest_35 : decode cX1_nearest 35 = .ok (.aload_n 0, 1) := by decide +kernel
theorem dX1_nearest_36 : decode cX1_nearest 36 = .ok (.iload_n 1, 1) := by decide +kernel
theorem dX1_nearest_37 : decode cX1_nearest 37 = .ok (.iload_n 2, 1) := by decide +kernel
theorem dX1_nearest_38 : decode cX1_nearest 38 = .ok (.iload_n 3, 1) := by decide +kernel
theorem dX1_nearest_39 : decode cX1_nearest 39 = .ok (.isub, 1) := by decide +kernel
theorem dX1_nearest_40 : decode cX1_nearest 40 = .ok (.i2l, 1) := by decide +kernel
theorem dX1_nearest_41 : decode cX1_nearest 41 = .ok (.invokevirtual 82, 3) := by decide +kernel
theorem dX1_nearest_44 : decode cX1_nearest 44 = .ok (.ifCond .ne 21, 3) := by decide +kernel
theorem dX1_nearest_47 : decode cX1_nearest 47 = .ok (.aload_n 0, 1) := by decide +kernel
theorem dX1_nearest_48 : decode cX1_nearest 48 = .ok (.iload_n 1, 1) := by decide +kernel
theorem dX1_nearest_49 : decode cX1_nearest 49 = .ok (.iload_n 2, 1) := by decide +kernel
theorem dX1_nearest_50 : decode cX1_nearest 50 = .ok (.iload_n 3, 1) := by decide +kernel
theorem dX1_nearest_51 : decode cX1_nearest 51 = .ok (.iadd, 1) := by decide +kernel
theorem dX1_nearest_52 : decode cX1_nearest 52 = .ok (.i2l, 1) := by decide +kernel
theorem dX1_nearest_53 : decode cX1_nearest 53 = .ok (.invokevirtual 82, 3) := by decide +kernel
theorem dX1_nearest_56 : decode cX1_nearest 56 = .ok (.ifCond .ne 9, 3) := by decide +kernel
theorem dX1_nearest_59 : decode cX1_nearest 59 = .ok (.iinc 3 1, 3) := by decide +kernel
theorem dX1_nearest_62 : decode cX1_nearest 62 = .ok (.goto (-27), 3) := by decide +kernel
theorem dX1_nearest_65 : decode cX1_nearest 65 = .ok (.aload_n 0, 1) := by decide +kernel
theorem dX1_nearest_66 : decode cX1_nearest 66 = .ok (.iload_n 1, 1) := by decide +kernel
theorem dX1_nearest_67 : decode cX1_nearest 67 = .ok (.iload_n 2, 1) := by decide +kernel
theorem dX1_nearest_68 : decode cX1_nearest 68 = .ok (.iload_n 3, 1) := by decide +kernel
theorem dX1_nearest_69 : decode cX1_nearest 69 = .ok (.isub, 1) := by decide +kernel
theorem dX1_nearest_70 : decode cX1_nearest 70 = .ok (.i2l, 1) := by decide +kernel
theorem dX1_nearest_71 : decode cX1_nearest 71 = .ok (.invokevirtual 82, 3) := by decide +kernel
theorem dX1_nearest_74 : decode cX1_nearest 74 = .ok (.ifCond .eq 9, 3) := by decide +kernel
theorem dX1_nearest_77 : decode cX1_nearest 77 = .ok (.iload_n 2, 1) := by decide +kernel
theorem dX1_nearest_78 : decode cX1_nearest 78 = .ok (.iload_n 3, 1) := by decide +kernel
theorem dX1_nearest_79 : decode cX1_nearest 79 = .ok (.isub, 1) := by decide +kernel
theorem dX1_nearest_80 : decode cX1_nearest 80 = .ok (.goto 6, 3) := by decide +kernel
theorem dX1_nearest_83 : decode cX1_nearest 83 = .ok (.iload_n 2, 1) := by decide +kernel
theorem dX1_nearest_84 : decode cX1_nearest 84 = .ok (.iload_n 3, 1) := by decide +kernel
theorem dX1_nearest_85 : decode cX1_nearest 85 = .ok (.iadd, 1) := by decide +kernel
theorem dX1_nearest_86 : decode cX1_nearest 86 = .ok (.ireturn, 1) := by decide +kernel
set_option maxRecDepth 20000 in
theorem ggX1_before_X1_part : GoodIn wsX1_before wsX1_part := goodIn_r _ [6, 7, 8, 5, 9] (by decide +kernel) (by decide +kernel)
set_option maxRecDepth 20000 in
theorem gX1_before_X1_part : GoodIn wsX1_before (va_wsS RX1 90 yX1_part wsX1_part) := goodIn_app (goodIn_of _ (by decide +kernel)) ggX1_before_X1_part
theorem dX1_before_0 : decode cX1_before 0 = .ok (.lload_n 2, 1) := by decide +kernel
theorem dX1_before_1 : decode cX1_before 1 = .ok (.aload_n 0, 1) := by decide +kernel
theorem dX1_before_2 : decode cX1_before 2 = .ok (.getfield 13, 3) := by decide +kernel
theorem dX1_before_5 : decode cX1_before 5 = .ok (.iload_n 1, 1) := by decide +kernel
theorem dX1_before_6 : decode cX1_before 6 = .ok (.iaload, 1) := by decide +kernel
theorem dX1_before_7 : decode cX1_before 7 = .ok (.i2l, 1) := by decide +kernel
theorem dX1_before_8 : decode cX1_before 8 = .ok (.lsub, 1) := by decide +kernel
theorem dX1_before_9 : decode cX1_before 9 = .ok (.aload_n 0, 1) := by decide +kernel
theorem dX1_before_10 : decode cX1_before 10 = .ok (.getfield 7, 3) := by decide +kernel
theorem dX1_before_13 : decode cX1_before 13 = .ok (.iload_n 1, 1) := by decide +kernel
theorem dX1_before_14 : decode cX1_before 14 = .ok (.iaload, 1) := by decide +kernel
theorem dX1_before_15 : decode cX1_before 15 = .ok (.i2l, 1) := by decide +kernel
theorem dX1_before_16 : decode cX1_before 16 = .ok (.ladd, 1) := by decide +kernel
theorem dX1_before_17 : decode cX1_before 17 = .ok (.lconst 1, 1) := by decide +kernel
theorem dX1_before_18 : decode cX1_before 18 = .ok (.lsub, 1) := by decide +kernel
theorem dX1_before_19 : decode cX1_before 19 = .ok (.aload_n 0, 1) := by decide +kernel
theorem dX1_before_20 : decode cX1_before 20 = .ok (.getfield 7, 3) := by decide +kernel
theorem dX1_before_23 : decode cX1_before 23 = .ok (.iload_n 1, 1) := by decide +kernel
theorem dX1_before_24 : decode cX1_before 24 = .ok (.iaload, 1) := by decide +kernel
theorem dX1_before_25 : decode cX1_before 25 = .ok (.i2l, 1) := by decide +kernel
theorem dX1_before_26 : decode cX1_before 26 = .ok (.invokestatic 90, 3) := by decide +kernel
theorem dX1_before_29 : decode cX1_before 29 = .ok (.lreturn, 1) := by decide +kernel
set_option maxRecDepth 20000 in
theorem ggX1_count_X1_before : GoodIn wsX1_count wsX1_before := goodIn_r _ [5, 6, 7, 8, 9, 4, 10, 11, 12, 13, 14, 15, 16, 17, 18, 19, 20, 21, 22, 23, 24, 25, 26] (by decide +kernel) (by decide +kernel)
set_option maxRecDepth 20000 in
theorem gX1_count_X1_before : GoodIn wsX1_count (wsV RX1 93 RX1 yX1_before wsX1_before) := goodIn_app (goodIn_of _ (by decide +kernel)) ggX1_count_X1_before
theorem dX1_count_0 : decode cX1_count 0 = .ok (.aload_n 0, 1) := by decide +kernel
theorem dX1_count_1 : decode cX1_count 1 = .ok (.iload_n 1, 1) := by decide +kernel
theorem dX1_count_2 : decode cX1_count 2 = .ok (.lload 4, 2) := by decide +kernel
theorem dX1_count_4 : decode cX1_count 4 = .ok (.lconst 1, 1) := by decide +kernel
theorem dX1_count_5 : decode cX1_count 5 = .ok (.ladd, 1) := by decide +kernel
theorem dX1_count_6 : decode cX1_count 6 = .ok (.invokevirtual 93, 3) := by decide +kernel
theorem dX1_count_9 : decode cX1_count 9 = .ok (.aload_n 0, 1) := by decide +kernel
theorem dX1_count_10 : decode cX1_count 10 = .ok (.iload_n 1, 1) := by decide +kernel
theorem dX1_count_11 : decode cX1_count 11 = .ok (.lload_n 2, 1) := by decide +kernel
theorem dX1_count_12 : decode cX1_count 12 = .ok (.invokevirtual 93, 3) := by decide +kernel
theorem dX1_count_15 : decode cX1_count 15 = .ok (.lsub, 1) := by decide +kernel
theorem dX1_count_16 : decode cX1_count 16 = .ok (.l2i, 1) := by decide +kernel
theorem dX1_count_17 : decode cX1_count 17 = .ok (.ireturn, 1) := by decide +kernel
set_option maxRecDepth 20000 in
theorem ggX1_times_X1_isDay : GoodIn wsX1_times wsX1_isDay := goodIn_r _ [4, 5, 6, 7, 8, 3, 9] (by decide +kernel) (by decide +kernel)
set_option maxRecDepth 20000 in
theorem gX1_times_X1_isDay : GoodIn wsX1_times (va_wsS RX1 79 yX1_isDay wsX1_isDay) := goodIn_app (goodIn_of _ (by decide +kernel)) ggX1_times_X1_isDay
set_option maxRecDepth 20000 in
theorem ggX1_times_X1_isMarket : GoodIn wsX1_times wsX1_isMarket := goodIn_r _ [13, 14, 7, 8, 3, 9, 36, 37, 38, 39, 40, 41, 42, 43, 44, 45, 46, 47, 48] (by decide +kernel) (by decide +kernel)
set_option maxRecDepth 20000 in
theorem gX1_times_X1_isMarket : GoodIn wsX1_times (wsV RX1 56 RX1 yX1_isMarket wsX1_isMarket) := goodIn_app (goodIn_of _ (by decide +kernel)) ggX1_times_X1_isMarket
set_option maxRecDepth 20000 in
theorem ggX1_times_X1_goesWell : GoodIn wsX1_times wsX1_goesWell := goodIn_r _ [18, 19, 36, 37, 38, 39, 40, 41, 42, 43, 44, 45, 46, 47, 48] (by decide +kernel) (by decide +kernel)
set_option maxRecDepth 20000 in
theorem gX1_times_X1_goesWell : GoodIn wsX1_times (wsV RX1 52 RX1 yX1_goesWell wsX1_goesWell) := goodIn_app (goodIn_of _ (by decide +kernel)) ggX1_times_X1_goesWell
set_option maxRecDepth 20000 in
theorem ggX1_times_X1_count : GoodIn wsX1_times wsX1_count := goodIn_r _ [23, 24, 25, 26, 3, 27, 28, 29, 30, 31, 32, 33, 34, 35, 36, 37, 38, 39, 40, 41, 42, 43, 44, 45, 46, 47, 48] (by decide +kernel) (by decide +kernel)
set_option maxRecDepth 20000 in
theorem gX1_times_X1_count : GoodIn wsX1_times (wsV RX1 97 RX1 yX1_count wsX1_count) := goodIn_app (goodIn_of _ (by decide +kernel)) ggX1_times_X1_count
theorem dX1_times_0 : decode cX1_times 0 = .ok (.iload_n 2, 1) := by decide +kernel
theorem dX1_times_1 : decode cX1_times 1 = .ok (.invokestatic 79, 3) := by decide +kernel
theorem dX1_times_4 : decode cX1_times 4 = .ok (.ifCond .eq 19, 3) := by decide +kernel
theorem dX1_times_7 : decode cX1_times 7 = .ok (.iload_n 3, 1) := by decide +kernel
theorem dX1_times_8 : decode cX1_times 8 = .ok (.invokestatic 79, 3) := by decide +kernel
theorem dX1_times_11 : decode cX1_times 11 = .ok (.ifCond .eq 12, 3) := by decide +kernel
theorem dX1_times_14 : decode cX1_times 14 = .ok (.iload_n 2, 1) := by decide +kernel
theorem dX1_times_15 : decode cX1_times 15 = .ok (.iload_n 3, 1) := by decide +kernel
theorem dX1_times_16 : decode cX1_times 16 = .ok (.if_icmp .gt 7, 3) := by decide +kernel
theorem dX1_times_19 : decode cX1_times 19 = .ok (.iconst 1, 1) := by decide +kernel
theorem dX1_times_20 : decode cX1_times 20 = .ok (.goto 4, 3) := by decide +kernel
theorem dX1_times_23 : decode cX1_times 23 = .ok (.iconst 0, 1) := by decide +kernel
theorem dX1_times_24 : decode cX1_times 24 = .ok (.istore 4, 2) := by decide +kernel
theorem dX1_times_26 : decode cX1_times 26 = .ok (.aload_n 0, 1) := by decide +kernel
theorem dX1_times_27 : decode cX1_times 27 = .ok (.aload_n 0, 1) := by decide +kernel
theorem dX1_times_28 : decode cX1_times 28 = .ok (.iload_n 1, 1) := by decide +kernel
theorem dX1_times_29 : decode cX1_times 29 = .ok (.invokevirtual 56, 3) := by decide +kernel
theorem dX1_times_32 : decode cX1_times 32 = .ok (.ifCond .ne 7, 3) := by decide +kernel
theorem dX1_times_35 : decode cX1_times 35 = .ok (.iconst 1, 1) := by decide +kernel
theorem dX1_times_36 : decode cX1_times 36 = .ok (.goto 13, 3) := by decide +kernel
theorem dX1_times_39 : decode cX1_times 39 = .ok (.iload 4, 2) := by decide +kernel
theorem dX1_times_41 : decode cX1_times 41 = .ok (.ifCond .eq 7, 3) := by decide +kernel
theorem dX1_times_44 : decode cX1_times 44 = .ok (.iconst 0, 1) := by decide +kernel
theorem dX1_times_45 : decode cX1_times 45 = .ok (.goto 4, 3) := by decide +kernel
theorem dX1_times_48 : decode cX1_times 48 = .ok (.iconst 2, 1) := by decide +kernel
theorem dX1_times_49 : decode cX1_times 49 = .ok (.invokevirtual 52, 3) := by decide +kernel
theorem dX1_times_52 : decode cX1_times 52 = .ok (.ifCond .eq 15, 3) := by decide +kernel
theorem dX1_times_55 : decode cX1_times 55 = .ok (.aload_n 0, 1) := by decide +kernel
theorem dX1_times_56 : decode cX1_times 56 = .ok (.iload_n 1, 1) := by decide +kernel
theorem dX1_times_57 : decode cX1_times 57 = .ok (.iload_n 2, 1) := by decide +kernel
theorem dX1_times_58 : decode cX1_times 58 = .ok (.i2l, 1) := by decide +kernel
theorem dX1_times_59 : decode cX1_times 59 = .ok (.iload_n 3, 1) := by decide +kernel
theorem dX1_times_60 : decode cX1_times 60 = .ok (.i2l, 1) := by decide +kernel
theorem dX1_times_61 : decode cX1_times 61 = .ok (.invokevirtual 97, 3) := by decide +kernel
theorem dX1_times_64 : decode cX1_times 64 = .ok (.goto 4, 3) := by decide +kernel
theorem dX1_times_67 : decode cX1_times 67 = .ok (.iconst 0, 1) := by decide +kernel
theorem dX1_times_68 : decode cX1_times 68 = .ok (.ireturn, 1) := by decide +kernel
set_option maxRecDepth 20000 in
theorem ggX1_held_X1_holds : GoodIn wsX1_held wsX1_holds := goodIn_r _ [6, 7, 8, 9, 10, 5, 11, 12, 13, 14, 15, 16, 17, 18, 19, 20, 21, 22, 23, 24] (by decide +kernel) (by decide +kernel)
set_option maxRecDepth 20000 in
theorem gX1_held_X1_holds : GoodIn wsX1_held (wsV RX1 82 RX1 yX1_holds wsX1_holds) := goodIn_app (goodIn_of _ (by decide +kernel)) ggX1_held_X1_holds
theorem dX1_held_0 : decode cX1_held 0 = .ok (.iconst 0, 1) := by decide +kernel
theorem dX1_held_1 : decode cX1_held 1 = .ok (.istore_n 2, 1) := by decide +kernel
theorem dX1_held_2 : decode cX1_held 2 = .ok (.iconst 0, 1) := by decide +kernel
theorem dX1_held_3 : decode cX1_held 3 = .ok (.istore_n 3, 1) := by decide +kernel
theorem dX1_held_4 : decode cX1_held 4 = .ok (.iload_n 3, 1) := by decide +kernel
theorem dX1_held_5 : decode cX1_held 5 = .ok (.aload_n 0, 1) := by decide +kernel
theorem dX1_held_6 : decode cX1_held 6 = .ok (.getfield 43, 3) := by decide +kernel
theorem dX1_held_9 : decode cX1_held 9 = .ok (.if_icmp .ge 29, 3) := by decide +kernel
theorem dX1_held_12 : decode cX1_held 12 = .ok (.iload_n 2, 1) := by decide +kernel
theorem dX1_held_13 : decode cX1_held 13 = .ok (.aload_n 0, 1) := by decide +kernel
theorem dX1_held_14 : decode cX1_held 14 = .ok (.iload_n 3, 1) := by decide +kernel
theorem dX1_held_15 : decode cX1_held 15 = .ok (.iload_n 1, 1) := by decide +kernel
theorem dX1_held_16 : decode cX1_held 16 = .ok (.i2l, 1) := by decide +kernel
theorem dX1_held_17 : decode cX1_held 17 = .ok (.invokevirtual 82, 3) := by decide +kernel
theorem dX1_held_20 : decode cX1_held 20 = .ok (.ifCond .eq 9, 3) := by decide +kernel
theorem dX1_held_23 : decode cX1_held 23 = .ok (.iconst 1, 1) := by decide +kernel
theorem dX1_held_24 : decode cX1_held 24 = .ok (.iload_n 3, 1) := by decide +kernel
theorem dX1_held_25 : decode cX1_held 25 = .ok (.ishl, 1) := by decide +kernel
theorem dX1_held_26 : decode cX1_held 26 = .ok (.goto 4, 3) := by decide +kernel
theorem dX1_held_29 : decode cX1_held 29 = .ok (.iconst 0, 1) := by decide +kernel
theorem dX1_held_30 : decode cX1_held 30 = .ok (.ior, 1) := by decide +kernel
theorem dX1_held_31 : decode cX1_held 31 = .ok (.istore_n 2, 1) := by decide +kernel
theorem dX1_held_32 : decode cX1_held 32 = .ok (.iinc 3 1, 3) := by decide +kernel
theorem dX1_held_35 : decode cX1_held 35 = .ok (.goto (-31), 3) := by decide +kernel
theorem dX1_held_38 : decode cX1_held 38 = .ok (.iload_n 2, 1) := by decide +kernel
theorem dX1_held_39 : decode cX1_held 39 = .ok (.ireturn, 1) := by decide +kernel
set_option maxRecDepth 20000 in
theorem ggX1_heldOn_X1_isDay : GoodIn wsX1_heldOn wsX1_isDay := goodIn_r _ [4, 5, 6, 7, 8, 3, 9] (by decide +kernel) (by decide +kernel)
set_option maxRecDepth 20000 in
theorem gX1_heldOn_X1_isDay : GoodIn wsX1_heldOn (va_wsS RX1 79 yX1_isDay wsX1_isDay) := goodIn_app (goodIn_of _ (by decide +kernel)) ggX1_heldOn_X1_isDay
set_option maxRecDepth 20000 in
theorem ggX1_heldOn_X1_goesWell : GoodIn wsX1_heldOn wsX1_goesWell := goodIn_r _ [13, 14, 29, 30, 31, 32, 33, 34, 35, 36, 37, 38, 39, 40, 41] (by decide +kernel) (by decide +kernel)
set_option maxRecDepth 20000 in
theorem gX1_heldOn_X1_goesWell : GoodIn wsX1_heldOn (wsV RX1 52 RX1 yX1_goesWell wsX1_goesWell) := goodIn_app (goodIn_of _ (by decide +kernel)) ggX1_heldOn_X1_goesWell
set_option maxRecDepth 20000 in
theorem ggX1_heldOn_X1_held : GoodIn wsX1_heldOn wsX1_held := goodIn_r _ [18, 19, 20, 21, 22, 3, 23, 24, 25, 26, 27, 28, 29, 30, 31, 32, 33, 34, 35, 36, 37, 38, 39, 40, 41] (by decide +kernel) (by decide +kernel)
set_option maxRecDepth 20000 in
theorem gX1_heldOn_X1_held : GoodIn wsX1_heldOn (wsV RX1 101 RX1 yX1_held wsX1_held) := goodIn_app (goodIn_of _ (by decide +kernel)) ggX1_heldOn_X1_held
theorem dX1_heldOn_0 : decode cX1_heldOn 0 = .ok (.aload_n 0, 1) := by decide +kernel
theorem dX1_heldOn_1 : decode cX1_heldOn 1 = .ok (.iload_n 1, 1) := by decide +kernel
theorem dX1_heldOn_2 : decode cX1_heldOn 2 = .ok (.invokestatic 79, 3) := by decide +kernel
theorem dX1_heldOn_5 : decode cX1_heldOn 5 = .ok (.ifCond .eq 7, 3) := by decide +kernel
theorem dX1_heldOn_8 : decode cX1_heldOn 8 = .ok (.iconst 0, 1) := by decide +kernel
theorem dX1_heldOn_9 : decode cX1_heldOn 9 = .ok (.goto 4, 3) := by decide +kernel
theorem dX1_heldOn_12 : decode cX1_heldOn 12 = .ok (.iconst 1, 1) := by decide +kernel
theorem dX1_heldOn_13 : decode cX1_heldOn 13 = .ok (.invokevirtual 52, 3) := by decide +kernel
theorem dX1_heldOn_16 : decode cX1_heldOn 16 = .ok (.ifCond .eq 11, 3) := by decide +kernel
theorem dX1_heldOn_19 : decode cX1_heldOn 19 = .ok (.aload_n 0, 1) := by decide +kernel
theorem dX1_heldOn_20 : decode cX1_heldOn 20 = .ok (.iload_n 1, 1) := by decide +kernel
theorem dX1_heldOn_21 : decode cX1_heldOn 21 = .ok (.invokevirtual 101, 3) := by decide +kernel
theorem dX1_heldOn_24 : decode cX1_heldOn 24 = .ok (.goto 4, 3) := by decide +kernel
theorem dX1_heldOn_27 : decode cX1_heldOn 27 = .ok (.iconst 0, 1) := by decide +kernel
theorem dX1_heldOn_28 : decode cX1_heldOn 28 = .ok (.ireturn, 1) := by decide +kernel
theorem dX1_sizeOf_0 : decode cX1_sizeOf 0 = .ok (.iconst 0, 1) := by decide +kernel
theorem dX1_sizeOf_1 : decode cX1_sizeOf 1 = .ok (.istore_n 1, 1) := by decide +kernel
theorem dX1_sizeOf_2 : decode cX1_sizeOf 2 = .ok (.iconst 0, 1) := by decide +kernel
theorem dX1_sizeOf_3 : decode cX1_sizeOf 3 = .ok (.istore_n 2, 1) := by decide +kernel
theorem dX1_sizeOf_4 : decode cX1_sizeOf 4 = .ok (.iload_n 2, 1) := by decide +kernel
theorem dX1_sizeOf_5 : decode cX1_sizeOf 5 = .ok (.bipush 32, 2) := by decide +kernel
theorem dX1_sizeOf_7 : decode cX1_sizeOf 7 = .ok (.if_icmp .ge 17, 3) := by decide +kernel
theorem dX1_sizeOf_10 : decode cX1_sizeOf 10 = .ok (.iload_n 1, 1) := by decide +kernel
theorem dX1_sizeOf_11 : decode cX1_sizeOf 11 = .ok (.iload_n 0, 1) := by decide +kernel
theorem dX1_sizeOf_12 : decode cX1_sizeOf 12 = .ok (.iload_n 2, 1) := by decide +kernel
theorem dX1_sizeOf_13 : decode cX1_sizeOf 13 = .ok (.ishr, 1) := by decide +kernel
theorem dX1_sizeOf_14 : decode cX1_sizeOf 14 = .ok (.iconst 1, 1) := by decide +kernel
theorem dX1_sizeOf_15 : decode cX1_sizeOf 15 = .ok (.iand, 1) := by decide +kernel
theorem dX1_sizeOf_16 : decode cX1_sizeOf 16 = .ok (.iadd, 1) := by decide +kernel
theorem dX1_sizeOf_17 : decode cX1_sizeOf 17 = .ok (.istore_n 1, 1) := by decide +kernel
theorem dX1_sizeOf_18 : decode cX1_sizeOf 18 = .ok (.iinc 2 1, 3) := by decide +kernel
theorem dX1_sizeOf_21 : decode cX1_sizeOf 21 = .ok (.goto (-17), 3) := by decide +kernel
theorem dX1_sizeOf_24 : decode cX1_sizeOf 24 = .ok (.iload_n 1, 1) := by decide +kernel
theorem dX1_sizeOf_25 : decode cX1_sizeOf 25 = .ok (.ireturn, 1) := by decide +kernel
set_option maxRecDepth 20000 in
theorem ggX1_faultOf_X1_sizeOf : GoodIn wsX1_faultOf wsX1_sizeOf := goodIn_r _ [6] (by decide +kernel) (by decide +kernel)
set_option maxRecDepth 20000 in
theorem gX1_faultOf_X1_sizeOf : GoodIn wsX1_faultOf (va_wsS RX1 105 yX1_sizeOf wsX1_sizeOf) := goodIn_app (goodIn_of _ (by decide +kernel)) ggX1_faultOf_X1_sizeOf
set_option maxRecDepth 20000 in
theorem ggX1_faultOf_X1_in : GoodIn wsX1_faultOf wsX1_in := goodIn_r _ [9] (by decide +kernel) (by decide +kernel)
set_option maxRecDepth 20000 in
theorem gX1_faultOf_X1_in : GoodIn wsX1_faultOf (va_wsS RX1 39 yX1_in wsX1_in) := goodIn_app (goodIn_of _ (by decide +kernel)) ggX1_faultOf_X1_in
theorem dX1_faultOf_0 : decode cX1_faultOf 0 = .ok (.iload_n 1, 1) := by decide +kernel
theorem dX1_faultOf_1 : decode cX1_faultOf 1 = .ok (.invokestatic 105, 3) := by decide +kernel
theorem dX1_faultOf_4 : decode cX1_faultOf 4 = .ok (.i2l, 1) := by decide +kernel
theorem dX1_faultOf_5 : decode cX1_faultOf 5 = .ok (.lconst 1, 1) := by decide +kernel
theorem dX1_faultOf_6 : decode cX1_faultOf 6 = .ok (.ldc2_w 108, 3) := by decide +kernel
theorem dX1_faultOf_9 : decode cX1_faultOf 9 = .ok (.invokestatic 39, 3) := by decide +kernel
theorem dX1_faultOf_12 : decode cX1_faultOf 12 = .ok (.ifCond .ne 7, 3) := by decide +kernel
theorem dX1_faultOf_15 : decode cX1_faultOf 15 = .ok (.iconst 1, 1) := by decide +kernel
theorem dX1_faultOf_16 : decode cX1_faultOf 16 = .ok (.goto 17, 3) := by decide +kernel
theorem dX1_faultOf_19 : decode cX1_faultOf 19 = .ok (.iload_n 1, 1) := by decide +kernel
theorem dX1_faultOf_20 : decode cX1_faultOf 20 = .ok (.aload_n 0, 1) := by decide +kernel
theorem dX1_faultOf_21 : decode cX1_faultOf 21 = .ok (.getfield 43, 3) := by decide +kernel
theorem dX1_faultOf_24 : decode cX1_faultOf 24 = .ok (.iushr, 1) := by decide +kernel
theorem dX1_faultOf_25 : decode cX1_faultOf 25 = .ok (.ifCond .eq 7, 3) := by decide +kernel
theorem dX1_faultOf_28 : decode cX1_faultOf 28 = .ok (.iconst 2, 1) := by decide +kernel
theorem dX1_faultOf_29 : decode cX1_faultOf 29 = .ok (.goto 4, 3) := by decide +kernel
theorem dX1_faultOf_32 : decode cX1_faultOf 32 = .ok (.iconst 0, 1) := by decide +kernel
theorem dX1_faultOf_33 : decode cX1_faultOf 33 = .ok (.ireturn, 1) := by decide +kernel
set_option maxRecDepth 20000 in
theorem ggX1_find_X1_holds : GoodIn wsX1_find wsX1_holds := goodIn_r _ [9, 4, 10, 11, 12, 8, 13, 14, 15, 16, 17, 18, 19, 20, 21, 22, 23, 24, 25, 26] (by decide +kernel) (by decide +kernel)
set_option maxRecDepth 20000 in
theorem gX1_find_X1_holds : GoodIn wsX1_find (wsV RX1 82 RX1 yX1_holds wsX1_holds) := goodIn_app (goodIn_of _ (by decide +kernel)) ggX1_find_X1_holds
theorem dX1_find_0 : decode cX1_find 0 = .ok (.aload_n 0, 1) := by decide +kernel
theorem dX1_find_1 : decode cX1_find 1 = .ok (.iload_n 2, 1) := by decide +kernel
theorem dX1_find_2 : decode cX1_find 2 = .ok (.i2l, 1) := by decide +kernel
theorem dX1_find_3 : decode cX1_find 3 = .ok (.putfield 110, 3) := by decide +kernel
theorem dX1_find_6 : decode cX1_find 6 = .ok (.aload_n 0, 1) := by decide +kernel
theorem dX1_find_7 : decode cX1_find 7 = .ok (.lconst 1, 1) := by decide +kernel
theorem dX1_find_8 : decode cX1_find 8 = .ok (.putfield 114, 3) := by decide +kernel
theorem dX1_find_11 : decode cX1_find 11 = .ok (.iconst 0, 1) := by decide +kernel
theorem dX1_find_12 : decode cX1_find 12 = .ok (.istore_n 3, 1) := by decide +kernel
theorem dX1_find_13 : decode cX1_find 13 = .ok (.iload_n 3, 1) := by decide +kernel
theorem dX1_find_14 : decode cX1_find 14 = .ok (.aload_n 0, 1) := by decide +kernel
theorem dX1_find_15 : decode cX1_find 15 = .ok (.getfield 43, 3) := by decide +kernel
theorem dX1_find_18 : decode cX1_find 18 = .ok (.if_icmp .ge 116, 3) := by decide +kernel
theorem dX1_find_21 : decode cX1_find 21 = .ok (.iload_n 1, 1) := by decide +kernel
theorem dX1_find_22 : decode cX1_find 22 = .ok (.iload_n 3, 1) := by decide +kernel
theorem dX1_find_23 : decode cX1_find 23 = .ok (.ishr, 1) := by decide +kernel
theorem dX1_find_24 : decode cX1_find 24 = .ok (.iconst 1, 1) := by decide +kernel
theorem dX1_find_25 : decode cX1_find 25 = .ok (.iand, 1) := by decide +kernel
theorem dX1_find_26 : decode cX1_find 26 = .ok (.iconst 1, 1) := by decide +kernel
theorem dX1_find_27 : decode cX1_find 27 = .ok (.if_icmp .ne 101, 3) := by decide +kernel
theorem dX1_find_30 : decode cX1_find 30 = .ok (.iconst 0, 1) := by decide +kernel
theorem dX1_find_31 : decode cX1_find 31 = .ok (.istore 4, 2) := by decide +kernel
theorem dX1_find_33 : decode cX1_find 33 = .ok (.aload_n 0, 1) := by decide +kernel
theorem dX1_find_34 : decode cX1_find 34 = .ok (.iload_n 3, 1) := by decide +kernel
theorem dX1_find_35 : decode cX1_find 35 = .ok (.aload_n 0, 1) := by decide +kernel
theorem dX1_find_36 : decode cX1_find 36 = .ok (.getfield 110, 3) := by decide +kernel
theorem dX1_find_39 : decode cX1_find 39 = .ok (.invokevirtual 82, 3) := by decide +kernel
theorem dX1_find_42 : decode cX1_find 42 = .ok (.ifCond .ne 33, 3) := by decide +kernel
theorem dX1_find_45 : decode cX1_find 45 = .ok (.iload 4, 2) := by decide +kernel
theorem dX1_find_47 : decode cX1_find 47 = .ok (.aload_n 0, 1) := by decide +kernel
theorem dX1_find_48 : decode cX1_find 48 = .ok (.getfield 7, 3) := by decide +kernel
theorem dX1_find_51 : decode cX1_find 51 = .ok (.iload_n 3, 1) := by decide +kernel
theorem dX1_find_52 : decode cX1_find 52 = .ok (.iaload, 1) := by decide +kernel
theorem dX1_find_53 : decode cX1_find 53 = .ok (.if_icmp .ge 22, 3) := by decide +kernel
theorem dX1_find_56 : decode cX1_find 56 = .ok (.aload_n 0, 1) := by decide +kernel
theorem dX1_find_57 : decode cX1_find 57 = .ok (.dup, 1) := by decide +kernel
theorem dX1_find_58 : decode cX1_find 58 = .ok (.getfield 110, 3) := by decide +kernel
theorem dX1_find_61 : decode cX1_find 61 = .ok (.aload_n 0, 1) := by decide +kernel
theorem dX1_find_62 : decode cX1_find 62 = .ok (.getfield 114, 3) := by decide +kernel
theorem dX1_find_65 : decode cX1_find 65 = .ok (.ladd, 1) := by decide +kernel
theorem dX1_find_66 : decode cX1_find 66 = .ok (.putfield 110, 3) := by decide +kernel
theorem dX1_find_69 : decode cX1_find 69 = .ok (.iinc 4 1, 3) := by decide +kernel
theorem dX1_find_72 : decode cX1_find 72 = .ok (.goto (-39), 3) := by decide +kernel
theorem dX1_find_75 : decode cX1_find 75 = .ok (.aload_n 0, 1) := by decide +kernel
theorem dX1_find_76 : decode cX1_find 76 = .ok (.iload_n 3, 1) := by decide +kernel
theorem dX1_find_77 : decode cX1_find 77 = .ok (.aload_n 0, 1) := by decide +kernel
theorem dX1_find_78 : decode cX1_find 78 = .ok (.getfield 110, 3) := by decide +kernel
theorem dX1_find_81 : decode cX1_find 81 = .ok (.invokevirtual 82, 3) := by decide +kernel
theorem dX1_find_84 : decode cX1_find 84 = .ok (.ifCond .ne 5, 3) := by decide +kernel
theorem dX1_find_87 : decode cX1_find 87 = .ok (.iconst 0, 1) := by decide +kernel
theorem dX1_find_88 : decode cX1_find 88 = .ok (.ireturn, 1) := by decide +kernel
theorem dX1_find_89 : decode cX1_find 89 = .ok (.aload_n 0, 1) := by decide +kernel
theorem dX1_find_90 : decode cX1_find 90 = .ok (.getfield 114, 3) := by decide +kernel
theorem dX1_find_93 : decode cX1_find 93 = .ok (.lstore 5, 2) := by decide +kernel
theorem dX1_find_95 : decode cX1_find 95 = .ok (.lload 5, 2) := by decide +kernel
theorem dX1_find_97 : decode cX1_find 97 = .ok (.aload_n 0, 1) := by decide +kernel
theorem dX1_find_98 : decode cX1_find 98 = .ok (.getfield 7, 3) := by decide +kernel
theorem dX1_find_101 : decode cX1_find 101 = .ok (.iload_n 3, 1) := by decide +kernel
theorem dX1_find_102 : decode cX1_find 102 = .ok (.iaload, 1) := by decide +kernel
theorem dX1_find_103 : decode cX1_find 103 = .ok (.i2l, 1) := by decide +kernel
theorem dX1_find_104 : decode cX1_find 104 = .ok (.lrem, 1) := by decide +kernel
theorem dX1_find_105 : decode cX1_find 105 = .ok (.lconst 0, 1) := by decide +kernel
theorem dX1_find_106 : decode cX1_find 106 = .ok (.lcmp, 1) := by decide +kernel
theorem dX1_find_107 : decode cX1_find 107 = .ok (.ifCond .eq 15, 3) := by decide +kernel
theorem dX1_find_110 : decode cX1_find 110 = .ok (.lload 5, 2) := by decide +kernel
theorem dX1_find_112 : decode cX1_find 112 = .ok (.aload_n 0, 1) := by decide +kernel
theorem dX1_find_113 : decode cX1_find 113 = .ok (.getfield 114, 3) := by decide +kernel
theorem dX1_find_116 : decode cX1_find 116 = .ok (.ladd, 1) := by decide +kernel
theorem dX1_find_117 : decode cX1_find 117 = .ok (.lstore 5, 2) := by decide +kernel
theorem dX1_find_119 : decode cX1_find 119 = .ok (.goto (-24), 3) := by decide +kernel
theorem dX1_find_122 : decode cX1_find 122 = .ok (.aload_n 0, 1) := by decide +kernel
theorem dX1_find_123 : decode cX1_find 123 = .ok (.lload 5, 2) := by decide +kernel
theorem dX1_find_125 : decode cX1_find 125 = .ok (.putfield 114, 3) := by decide +kernel
theorem dX1_find_128 : decode cX1_find 128 = .ok (.iinc 3 1, 3) := by decide +kernel
theorem dX1_find_131 : decode cX1_find 131 = .ok (.goto (-118), 3) := by decide +kernel
theorem dX1_find_134 : decode cX1_find 134 = .ok (.iconst 1, 1) := by decide +kernel
theorem dX1_find_135 : decode cX1_find 135 = .ok (.ireturn, 1) := by decide +kernel
set_option maxRecDepth 20000 in
theorem ggX1_doMeet_X1_faultOf : GoodIn wsX1_doMeet wsX1_faultOf := goodIn_r _ [5, 6, 7, 8, 9, 4, 10, 11, 12, 13, 34, 35, 36, 37, 38, 39, 40, 41, 42, 43, 44, 45, 46] (by decide +kernel) (by decide +kernel)
set_option maxRecDepth 20000 in
theorem gX1_doMeet_X1_faultOf : GoodIn wsX1_doMeet (wsV RX1 117 RX1 yX1_faultOf wsX1_faultOf) := goodIn_app (goodIn_of _ (by decide +kernel)) ggX1_doMeet_X1_faultOf
set_option maxRecDepth 20000 in
theorem ggX1_doMeet_X1_goesWell : GoodIn wsX1_doMeet wsX1_goesWell := goodIn_r _ [17, 18, 34, 35, 36, 37, 38, 39, 40, 41, 42, 43, 44, 45, 46] (by decide +kernel) (by decide +kernel)
set_option maxRecDepth 20000 in
theorem gX1_doMeet_X1_goesWell : GoodIn wsX1_doMeet (wsV RX1 52 RX1 yX1_goesWell wsX1_goesWell) := goodIn_app (goodIn_of _ (by decide +kernel)) ggX1_doMeet_X1_goesWell
set_option maxRecDepth 20000 in
theorem ggX1_doMeet_X1_find : GoodIn wsX1_doMeet wsX1_find := goodIn_r _ [22, 23, 24, 7, 25, 26, 27, 28, 4, 29, 30, 31, 32, 33, 34, 35, 36, 37, 38, 39, 40, 41, 42, 43, 44, 45, 46] (by decide +kernel) (by decide +kernel)
set_option maxRecDepth 20000 in
theorem gX1_doMeet_X1_find : GoodIn wsX1_doMeet (wsV RX1 120 RX1 yX1_find wsX1_find) := goodIn_app (goodIn_of _ (by decide +kernel)) ggX1_doMeet_X1_find
theorem dX1_doMeet_0 : decode cX1_doMeet 0 = .ok (.aload_n 0, 1) := by decide +kernel
theorem dX1_doMeet_1 : decode cX1_doMeet 1 = .ok (.aload_n 0, 1) := by decide +kernel
theorem dX1_doMeet_2 : decode cX1_doMeet 2 = .ok (.iload_n 1, 1) := by decide +kernel
theorem dX1_doMeet_3 : decode cX1_doMeet 3 = .ok (.invokevirtual 117, 3) := by decide +kernel
theorem dX1_doMeet_6 : decode cX1_doMeet 6 = .ok (.invokevirtual 52, 3) := by decide +kernel
theorem dX1_doMeet_9 : decode cX1_doMeet 9 = .ok (.ifCond .eq 16, 3) := by decide +kernel
theorem dX1_doMeet_12 : decode cX1_doMeet 12 = .ok (.aload_n 0, 1) := by decide +kernel
theorem dX1_doMeet_13 : decode cX1_doMeet 13 = .ok (.iload_n 1, 1) := by decide +kernel
theorem dX1_doMeet_14 : decode cX1_doMeet 14 = .ok (.iconst 0, 1) := by decide +kernel
theorem dX1_doMeet_15 : decode cX1_doMeet 15 = .ok (.invokevirtual 120, 3) := by decide +kernel
theorem dX1_doMeet_18 : decode cX1_doMeet 18 = .ok (.ifCond .eq 7, 3) := by decide +kernel
theorem dX1_doMeet_21 : decode cX1_doMeet 21 = .ok (.iconst 1, 1) := by decide +kernel
theorem dX1_doMeet_22 : decode cX1_doMeet 22 = .ok (.goto 4, 3) := by decide +kernel
theorem dX1_doMeet_25 : decode cX1_doMeet 25 = .ok (.iconst 0, 1) := by decide +kernel
theorem dX1_doMeet_26 : decode cX1_doMeet 26 = .ok (.ireturn, 1) := by decide +kernel
set_option maxRecDepth 20000 in
theorem ggX1_period_X1_faultOf : GoodIn wsX1_period wsX1_faultOf := goodIn_r _ [6, 7, 8, 9, 10, 5, 11, 12, 13, 14, 34, 35, 36, 37, 38, 39, 40, 41, 42, 43, 44, 45, 46] (by decide +kernel) (by decide +kernel)
set_option maxRecDepth 20000 in
theorem gX1_period_X1_faultOf : GoodIn wsX1_period (wsV RX1 117 RX1 yX1_faultOf wsX1_faultOf) := goodIn_app (goodIn_of _ (by decide +kernel)) ggX1_period_X1_faultOf
set_option maxRecDepth 20000 in
theorem ggX1_period_X1_find : GoodIn wsX1_period wsX1_find := goodIn_r _ [18, 19, 1, 8, 20, 21, 22, 23, 5, 24, 25, 26, 27, 28, 34, 35, 36, 37, 38, 39, 40, 41, 42, 43, 44, 45, 46] (by decide +kernel) (by decide +kernel)
set_option maxRecDepth 20000 in
theorem gX1_period_X1_find : GoodIn wsX1_period (wsV RX1 120 RX1 yX1_find wsX1_find) := goodIn_app (goodIn_of _ (by decide +kernel)) ggX1_period_X1_find
set_option maxRecDepth 20000 in
theorem ggX1_period_X1_goesWell : GoodIn wsX1_period wsX1_goesWell := goodIn_r _ [32, 33, 34, 35, 36, 37, 38, 39, 40, 41, 42, 43, 44, 45, 46] (by decide +kernel) (by decide +kernel)
set_option maxRecDepth 20000 in
theorem gX1_period_X1_goesWell : GoodIn wsX1_period (wsV RX1 52 RX1 yX1_goesWell wsX1_goesWell) := goodIn_app (goodIn_of _ (by decide +kernel)) ggX1_period_X1_goesWell
theorem dX1_period_0 : decode cX1_period 0 = .ok (.aload_n 0, 1) := by decide +kernel
theorem dX1_period_1 : decode cX1_period 1 = .ok (.iload_n 1, 1) := by decide +kernel
theorem dX1_period_2 : decode cX1_period 2 = .ok (.invokevirtual 117, 3) := by decide +kernel
theorem dX1_period_5 : decode cX1_period 5 = .ok (.istore_n 2, 1) := by decide +kernel
theorem dX1_period_6 : decode cX1_period 6 = .ok (.iload_n 2, 1) := by decide +kernel
theorem dX1_period_7 : decode cX1_period 7 = .ok (.ifCond .ne 16, 3) := by decide +kernel
theorem dX1_period_10 : decode cX1_period 10 = .ok (.aload_n 0, 1) := by decide +kernel
theorem dX1_period_11 : decode cX1_period 11 = .ok (.iload_n 1, 1) := by decide +kernel
theorem dX1_period_12 : decode cX1_period 12 = .ok (.iconst 0, 1) := by decide +kernel
theorem dX1_period_13 : decode cX1_period 13 = .ok (.invokevirtual 120, 3) := by decide +kernel
theorem dX1_period_16 : decode cX1_period 16 = .ok (.ifCond .eq 7, 3) := by decide +kernel
theorem dX1_period_19 : decode cX1_period 19 = .ok (.iconst 1, 1) := by decide +kernel
theorem dX1_period_20 : decode cX1_period 20 = .ok (.goto 4, 3) := by decide +kernel
theorem dX1_period_23 : decode cX1_period 23 = .ok (.iconst 0, 1) := by decide +kernel
theorem dX1_period_24 : decode cX1_period 24 = .ok (.istore_n 3, 1) := by decide +kernel
theorem dX1_period_25 : decode cX1_period 25 = .ok (.aload_n 0, 1) := by decide +kernel
theorem dX1_period_26 : decode cX1_period 26 = .ok (.iload_n 2, 1) := by decide +kernel
theorem dX1_period_27 : decode cX1_period 27 = .ok (.ifCond .le 7, 3) := by decide +kernel
theorem dX1_period_30 : decode cX1_period 30 = .ok (.iload_n 2, 1) := by decide +kernel
theorem dX1_period_31 : decode cX1_period 31 = .ok (.goto 12, 3) := by decide +kernel
theorem dX1_period_34 : decode cX1_period 34 = .ok (.iload_n 3, 1) := by decide +kernel
theorem dX1_period_35 : decode cX1_period 35 = .ok (.ifCond .eq 7, 3) := by decide +kernel
theorem dX1_period_38 : decode cX1_period 38 = .ok (.iconst 0, 1) := by decide +kernel
theorem dX1_period_39 : decode cX1_period 39 = .ok (.goto 4, 3) := by decide +kernel
theorem dX1_period_42 : decode cX1_period 42 = .ok (.iconst 3, 1) := by decide +kernel
theorem dX1_period_43 : decode cX1_period 43 = .ok (.invokevirtual 52, 3) := by decide +kernel
theorem dX1_period_46 : decode cX1_period 46 = .ok (.ifCond .eq 11, 3) := by decide +kernel
theorem dX1_period_49 : decode cX1_period 49 = .ok (.aload_n 0, 1) := by decide +kernel
theorem dX1_period_50 : decode cX1_period 50 = .ok (.getfield 114, 3) := by decide +kernel
theorem dX1_period_53 : decode cX1_period 53 = .ok (.l2i, 1) := by decide +kernel
theorem dX1_period_54 : decode cX1_period 54 = .ok (.goto 4, 3) := by decide +kernel
theorem dX1_period_57 : decode cX1_period 57 = .ok (.iconst 0, 1) := by decide +kernel
theorem dX1_period_58 : decode cX1_period 58 = .ok (.ireturn, 1) := by decide +kernel
set_option maxRecDepth 20000 in
theorem ggX1_meeting_X1_isDay : GoodIn wsX1_meeting wsX1_isDay := goodIn_r _ [5, 6, 7, 8, 9, 4, 10] (by decide +kernel) (by decide +kernel)
set_option maxRecDepth 20000 in
theorem gX1_meeting_X1_isDay : GoodIn wsX1_meeting (va_wsS RX1 79 yX1_isDay wsX1_isDay) := goodIn_app (goodIn_of _ (by decide +kernel)) ggX1_meeting_X1_isDay
set_option maxRecDepth 20000 in
theorem ggX1_meeting_X1_faultOf : GoodIn wsX1_meeting wsX1_faultOf := goodIn_r _ [14, 15, 16, 17, 18, 4, 19, 8, 9, 10, 39, 40, 41, 42, 43, 44, 45, 46, 47, 48, 49, 50, 51] (by decide +kernel) (by decide +kernel)
set_option maxRecDepth 20000 in
theorem gX1_meeting_X1_faultOf : GoodIn wsX1_meeting (wsV RX1 117 RX1 yX1_faultOf wsX1_faultOf) := goodIn_app (goodIn_of _ (by decide +kernel)) ggX1_meeting_X1_faultOf
set_option maxRecDepth 20000 in
theorem ggX1_meeting_X1_find : GoodIn wsX1_meeting wsX1_find := goodIn_r _ [23, 1, 24, 16, 25, 26, 27, 28, 4, 29, 30, 31, 32, 33, 39, 40, 41, 42, 43, 44, 45, 46, 47, 48, 49, 50, 51] (by decide +kernel) (by decide +kernel)
set_option maxRecDepth 20000 in
theorem gX1_meeting_X1_find : GoodIn wsX1_meeting (wsV RX1 120 RX1 yX1_find wsX1_find) := goodIn_app (goodIn_of _ (by decide +kernel)) ggX1_meeting_X1_find
set_option maxRecDepth 20000 in
theorem ggX1_meeting_X1_goesWell : GoodIn wsX1_meeting wsX1_goesWell := goodIn_r _ [37, 38, 39, 40, 41, 42, 43, 44, 45, 46, 47, 48, 49, 50, 51] (by decide +kernel) (by decide +kernel)
set_option maxRecDepth 20000 in
theorem gX1_meeting_X1_goesWell : GoodIn wsX1_meeting (wsV RX1 52 RX1 yX1_goesWell wsX1_goesWell) := goodIn_app (goodIn_of _ (by decide +kernel)) ggX1_meeting_X1_goesWell
theorem dX1_meeting_0 : decode cX1_meeting 0 = .ok (.iload_n 2, 1) := by decide +kernel
theorem dX1_meeting_1 : decode cX1_meeting 1 = .ok (.invokestatic 79, 3) := by decide +kernel
theorem dX1_meeting_4 : decode cX1_meeting 4 = .ok (.ifCond .eq 11, 3) := by decide +kernel
theorem dX1_meeting_7 : decode cX1_meeting 7 = .ok (.aload_n 0, 1) := by decide +kernel
theorem dX1_meeting_8 : decode cX1_meeting 8 = .ok (.iload_n 1, 1) := by decide +kernel
theorem dX1_meeting_9 : decode cX1_meeting 9 = .ok (.invokevirtual 117, 3) := by decide +kernel
theorem dX1_meeting_12 : decode cX1_meeting 12 = .ok (.goto 4, 3) := by decide +kernel
theorem dX1_meeting_15 : decode cX1_meeting 15 = .ok (.iconst 1, 1) := by decide +kernel
theorem dX1_meeting_16 : decode cX1_meeting 16 = .ok (.istore_n 3, 1) := by decide +kernel
theorem dX1_meeting_17 : decode cX1_meeting 17 = .ok (.iload_n 3, 1) := by decide +kernel
theorem dX1_meeting_18 : decode cX1_meeting 18 = .ok (.ifCond .ne 16, 3) := by decide +kernel
theorem dX1_meeting_21 : decode cX1_meeting 21 = .ok (.aload_n 0, 1) := by decide +kernel
theorem dX1_meeting_22 : decode cX1_meeting 22 = .ok (.iload_n 1, 1) := by decide +kernel
theorem dX1_meeting_23 : decode cX1_meeting 23 = .ok (.iload_n 2, 1) := by decide +kernel
theorem dX1_meeting_24 : decode cX1_meeting 24 = .ok (.invokevirtual 120, 3) := by decide +kernel
theorem dX1_meeting_27 : decode cX1_meeting 27 = .ok (.ifCond .eq 7, 3) := by decide +kernel
theorem dX1_meeting_30 : decode cX1_meeting 30 = .ok (.iconst 1, 1) := by decide +kernel
theorem dX1_meeting_31 : decode cX1_meeting 31 = .ok (.goto 4, 3) := by decide +kernel
theorem dX1_meeting_34 : decode cX1_meeting 34 = .ok (.iconst 0, 1) := by decide +kernel
theorem dX1_meeting_35 : decode cX1_meeting 35 = .ok (.istore 4, 2) := by decide +kernel
theorem dX1_meeting_37 : decode cX1_meeting 37 = .ok (.aload_n 0, 1) := by decide +kernel
theorem dX1_meeting_38 : decode cX1_meeting 38 = .ok (.iload_n 3, 1) := by decide +kernel
theorem dX1_meeting_39 : decode cX1_meeting 39 = .ok (.ifCond .le 7, 3) := by decide +kernel
theorem dX1_meeting_42 : decode cX1_meeting 42 = .ok (.iload_n 3, 1) := by decide +kernel
theorem dX1_meeting_43 : decode cX1_meeting 43 = .ok (.goto 13, 3) := by decide +kernel
theorem dX1_meeting_46 : decode cX1_meeting 46 = .ok (.iload 4, 2) := by decide +kernel
theorem dX1_meeting_48 : decode cX1_meeting 48 = .ok (.ifCond .eq 7, 3) := by decide +kernel
theorem dX1_meeting_51 : decode cX1_meeting 51 = .ok (.iconst 0, 1) := by decide +kernel
theorem dX1_meeting_52 : decode cX1_meeting 52 = .ok (.goto 4, 3) := by decide +kernel
theorem dX1_meeting_55 : decode cX1_meeting 55 = .ok (.iconst 3, 1) := by decide +kernel
theorem dX1_meeting_56 : decode cX1_meeting 56 = .ok (.invokevirtual 52, 3) := by decide +kernel
theorem dX1_meeting_59 : decode cX1_meeting 59 = .ok (.ifCond .eq 11, 3) := by decide +kernel
theorem dX1_meeting_62 : decode cX1_meeting 62 = .ok (.aload_n 0, 1) := by decide +kernel
theorem dX1_meeting_63 : decode cX1_meeting 63 = .ok (.getfield 110, 3) := by decide +kernel
theorem dX1_meeting_66 : decode cX1_meeting 66 = .ok (.l2i, 1) := by decide +kernel
theorem dX1_meeting_67 : decode cX1_meeting 67 = .ok (.goto 4, 3) := by decide +kernel
theorem dX1_meeting_70 : decode cX1_meeting 70 = .ok (.iconst 0, 1) := by decide +kernel
theorem dX1_meeting_71 : decode cX1_meeting 71 = .ok (.ireturn, 1) := by decide +kernel
set_option maxRecDepth 20000 in
theorem ggX1_lunarOf_X1_modulo : GoodIn wsX1_lunarOf wsX1_modulo := goodIn_r _ [7] (by decide +kernel) (by decide +kernel)
set_option maxRecDepth 20000 in
theorem gX1_lunarOf_X1_modulo : GoodIn wsX1_lunarOf (va_wsS RX1 46 yX1_modulo wsX1_modulo) := goodIn_app (goodIn_of _ (by decide +kernel)) ggX1_lunarOf_X1_modulo
theorem dX1_lunarOf_0 : decode cX1_lunarOf 0 = .ok (.lload_n 1, 1) := by decide +kernel
theorem dX1_lunarOf_1 : decode cX1_lunarOf 1 = .ok (.aload_n 0, 1) := by decide +kernel
theorem dX1_lunarOf_2 : decode cX1_lunarOf 2 = .ok (.getfield 69, 3) := by decide +kernel
theorem dX1_lunarOf_5 : decode cX1_lunarOf 5 = .ok (.i2l, 1) := by decide +kernel
theorem dX1_lunarOf_6 : decode cX1_lunarOf 6 = .ok (.ladd, 1) := by decide +kernel
theorem dX1_lunarOf_7 : decode cX1_lunarOf 7 = .ok (.aload_n 0, 1) := by decide +kernel
