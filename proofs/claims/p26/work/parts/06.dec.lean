theorem wsL_law_x0 : ∀ w ∈ (vx_atS RX0 57 "java/lang/IllegalStateException" ["java/lang/RuntimeException", "java/lang/Exception"]).filter goodWord, w ∈ lw_tbl := by decide +kernel
theorem wsL_law_x1 : ∀ w ∈ (vx_atS RX0 141 "java/lang/IllegalArgumentException" ["java/lang/RuntimeException", "java/lang/Exception"]).filter goodWord, w ∈ lw_tbl := by decide +kernel
theorem wsL_law_x2 : ∀ w ∈ (vx_atS RX0 148 "java/lang/IndexOutOfBoundsException" ["java/lang/RuntimeException", "java/lang/Exception"]).filter goodWord, w ∈ lw_tbl := by decide +kernel
theorem wsL_law_in : ∀ w ∈ wsL_law, w ∈ lw_tbl := fun w h => (List.mem_append.mp h).elim (fun h => (List.mem_append.mp h).elim (fun h => (List.mem_append.mp h).elim (fun h => wsL_law_in0 w h) (fun h => wsL_law_x0 w h)) (fun h => wsL_law_x1 w h)) (fun h => wsL_law_x2 w h)
theorem inlX0 : ∀ w ∈ wsX00, w ∈ wsL_law := fun _ h => List.mem_append_left _ (List.mem_append_left _ (List.mem_append_left _ (List.mem_append_left _ (List.mem_append_right _ h))))
theorem inX0 : ∀ w ∈ wsX00, w ∈ lw_tbl := fun w h => wsL_law_in w (inlX0 w h)
theorem inX1 : ∀ w ∈ wsX10, w ∈ lw_tbl := by decide +kernel
theorem inJ6 : ∀ w ∈ wsJ60, w ∈ lw_tbl := by decide +kernel
theorem inJ9 : ∀ w ∈ wsJ90, w ∈ lw_tbl := by decide +kernel
theorem inJ0 : ∀ w ∈ wsJ00, w ∈ lw_tbl := by decide +kernel
theorem dX0_init_0 : decode cX0_init 0 = .ok (.aload_n 0, 1) := by decide +kernel
theorem dX0_init_1 : decode cX0_init 1 = .ok (.invokespecial 1, 3) := by decide +kernel
theorem dX0_init_4 : decode cX0_init 4 = .ok (.aload_n 0, 1) := by decide +kernel
theorem dX0_init_5 : decode cX0_init 5 = .ok (.bipush 16, 2) := by decide +kernel
theorem dX0_init_7 : decode cX0_init 7 = .ok (.newarray .int, 2) := by decide +kernel
theorem dX0_init_9 : decode cX0_init 9 = .ok (.putfield 9, 3) := by decide +kernel
theorem dX0_init_12 : decode cX0_init 12 = .ok (.aload_n 0, 1) := by decide +kernel
theorem dX0_init_13 : decode cX0_init 13 = .ok (.bipush 16, 2) := by decide +kernel
theorem dX0_init_15 : decode cX0_init 15 = .ok (.newarray .int, 2) := by decide +kernel
theorem dX0_init_17 : decode cX0_init 17 = .ok (.putfield 13, 3) := by decide +kernel
theorem dX0_init_20 : decode cX0_init 20 = .ok (.aload_n 0, 1) := by decide +kernel
theorem dX0_init_21 : decode cX0_init 21 = .ok (.iconst 0, 1) := by decide +kernel
theorem dX0_init_22 : decode cX0_init 22 = .ok (.putfield 16, 3) := by decide +kernel
theorem dX0_init_25 : decode cX0_init 25 = .ok (.aload_n 0, 1) := by decide +kernel
theorem dX0_init_26 : decode cX0_init 26 = .ok (.sipush 1447, 3) := by decide +kernel
theorem dX0_init_29 : decode cX0_init 29 = .ok (.putfield 20, 3) := by decide +kernel
theorem dX0_init_32 : decode cX0_init 32 = .ok (.aload_n 0, 1) := by decide +kernel
theorem dX0_init_33 : decode cX0_init 33 = .ok (.bipush 49, 2) := by decide +kernel
theorem dX0_init_35 : decode cX0_init 35 = .ok (.putfield 23, 3) := by decide +kernel
theorem dX0_init_38 : decode cX0_init 38 = .ok (.aload_n 0, 1) := by decide +kernel
theorem dX0_init_39 : decode cX0_init 39 = .ok (.iconst 0, 1) := by decide +kernel
theorem dX0_init_40 : decode cX0_init 40 = .ok (.putfield 26, 3) := by decide +kernel
theorem dX0_init_43 : decode cX0_init 43 = .ok (.aload_n 0, 1) := by decide +kernel
theorem dX0_init_44 : decode cX0_init 44 = .ok (.sipush 365, 3) := by decide +kernel
theorem dX0_init_47 : decode cX0_init 47 = .ok (.putfield 29, 3) := by decide +kernel
theorem dX0_init_50 : decode cX0_init 50 = .ok (.aload_n 0, 1) := by decide +kernel
theorem dX0_init_51 : decode cX0_init 51 = .ok (.bipush 8, 2) := by decide +kernel
theorem dX0_init_53 : decode cX0_init 53 = .ok (.putfield 32, 3) := by decide +kernel
theorem dX0_init_56 : decode cX0_init 56 = .ok (.aload_n 0, 1) := by decide +kernel
theorem dX0_init_57 : decode cX0_init 57 = .ok (.iconst 0, 1) := by decide +kernel
theorem dX0_init_58 : decode cX0_init 58 = .ok (.putfield 35, 3) := by decide +kernel
theorem dX0_init_61 : decode cX0_init 61 = .ok (.aload_n 0, 1) := by decide +kernel
theorem dX0_init_62 : decode cX0_init 62 = .ok (.bipush 33, 2) := by decide +kernel
theorem dX0_init_64 : decode cX0_init 64 = .ok (.putfield 38, 3) := by decide +kernel
theorem dX0_init_67 : decode cX0_init 67 = .ok (.return_, 1) := by decide +kernel
set_option maxRecDepth 20000 in
theorem ggX0_addMarket_X0_isWithin : GoodIn wsX0_addMarket wsX0_isWithin := goodIn_r _ [9] (by decide +kernel) (by decide +kernel)
set_option maxRecDepth 20000 in
theorem gX0_addMarket_X0_isWithin : GoodIn wsX0_addMarket (va_wsS RX0 41 yX0_isWithin wsX0_isWithin) := goodIn_app (goodIn_of _ (by decide +kernel)) ggX0_addMarket_X0_isWithin
set_option maxRecDepth 20000 in
theorem ggX0_addMarket_X0_checkArgument : GoodIn wsX0_addMarket wsX0_checkArgument := goodIn_ca (goodIn_r _ [12, 13, 14] (by decide +kernel) (by decide +kernel)) (goodIn_sub (fun _ h => List.mem_cons_of_mem _ (List.mem_append_right _ h)) (by decide +kernel))
set_option maxRecDepth 20000 in
theorem gX0_addMarket_X0_checkArgument : GoodIn wsX0_addMarket (va_wsS RX0 45 yX0_checkArgument wsX0_checkArgument) := goodIn_app (goodIn_of _ (by decide +kernel)) ggX0_addMarket_X0_checkArgument
set_option maxRecDepth 20000 in
theorem ggX0_addMarket_X0_isPlace : GoodIn wsX0_addMarket wsX0_isPlace := goodIn_r _ [18, 4, 5, 19, 20, 21, 22, 23, 24, 25, 26, 27, 28] (by decide +kernel) (by decide +kernel)
set_option maxRecDepth 20000 in
theorem gX0_addMarket_X0_isPlace : GoodIn wsX0_addMarket (wsV RX0 49 RX0 yX0_isPlace wsX0_isPlace) := goodIn_app (goodIn_of _ (by decide +kernel)) ggX0_addMarket_X0_isPlace
theorem dX0_addMarket_0 : decode cX0_addMarket 0 = .ok (.iload_n 1, 1) := by decide +kernel
theorem dX0_addMarket_1 : decode cX0_addMarket 1 = .ok (.iconst 1, 1) := by decide +kernel
theorem dX0_addMarket_2 : decode cX0_addMarket 2 = .ok (.bipush 60, 2) := by decide +kernel
theorem dX0_addMarket_4 : decode cX0_addMarket 4 = .ok (.invokestatic 41, 3) := by decide +kernel
theorem dX0_addMarket_7 : decode cX0_addMarket 7 = .ok (.ifCond .eq 18, 3) := by decide +kernel
theorem dX0_addMarket_10 : decode cX0_addMarket 10 = .ok (.iload_n 2, 1) := by decide +kernel
theorem dX0_addMarket_11 : decode cX0_addMarket 11 = .ok (.iconst 0, 1) := by decide +kernel
theorem dX0_addMarket_12 : decode cX0_addMarket 12 = .ok (.iload_n 1, 1) := by decide +kernel
theorem dX0_addMarket_13 : decode cX0_addMarket 13 = .ok (.iconst 1, 1) := by decide +kernel
theorem dX0_addMarket_14 : decode cX0_addMarket 14 = .ok (.isub, 1) := by decide +kernel
theorem dX0_addMarket_15 : decode cX0_addMarket 15 = .ok (.invokestatic 41, 3) := by decide +kernel
theorem dX0_addMarket_18 : decode cX0_addMarket 18 = .ok (.ifCond .eq 7, 3) := by decide +kernel
theorem dX0_addMarket_21 : decode cX0_addMarket 21 = .ok (.iconst 1, 1) := by decide +kernel
theorem dX0_addMarket_22 : decode cX0_addMarket 22 = .ok (.goto 4, 3) := by decide +kernel
theorem dX0_addMarket_25 : decode cX0_addMarket 25 = .ok (.iconst 0, 1) := by decide +kernel
theorem dX0_addMarket_26 : decode cX0_addMarket 26 = .ok (.invokestatic 45, 3) := by decide +kernel
theorem dX0_addMarket_29 : decode cX0_addMarket 29 = .ok (.aload_n 0, 1) := by decide +kernel
theorem dX0_addMarket_30 : decode cX0_addMarket 30 = .ok (.getfield 16, 3) := by decide +kernel
theorem dX0_addMarket_33 : decode cX0_addMarket 33 = .ok (.istore_n 3, 1) := by decide +kernel
theorem dX0_addMarket_34 : decode cX0_addMarket 34 = .ok (.aload_n 0, 1) := by decide +kernel
theorem dX0_addMarket_35 : decode cX0_addMarket 35 = .ok (.iload_n 3, 1) := by decide +kernel
theorem dX0_addMarket_36 : decode cX0_addMarket 36 = .ok (.invokevirtual 49, 3) := by decide +kernel
theorem dX0_addMarket_39 : decode cX0_addMarket 39 = .ok (.ifCond .ne 13, 3) := by decide +kernel
theorem dX0_addMarket_42 : decode cX0_addMarket 42 = .ok (.new 53, 3) := by decide +kernel
theorem dX0_addMarket_45 : decode cX0_addMarket 45 = .ok (.dup, 1) := by decide +kernel
theorem dX0_addMarket_46 : decode cX0_addMarket 46 = .ok (.ldc 55, 2) := by decide +kernel
theorem dX0_addMarket_48 : decode cX0_addMarket 48 = .ok (.invokespecial 57, 3) := by decide +kernel
theorem dX0_addMarket_51 : decode cX0_addMarket 51 = .ok (.athrow, 1) := by decide +kernel
theorem dX0_addMarket_52 : decode cX0_addMarket 52 = .ok (.aload_n 0, 1) := by decide +kernel
theorem dX0_addMarket_53 : decode cX0_addMarket 53 = .ok (.getfield 9, 3) := by decide +kernel
theorem dX0_addMarket_56 : decode cX0_addMarket 56 = .ok (.iload_n 3, 1) := by decide +kernel
theorem dX0_addMarket_57 : decode cX0_addMarket 57 = .ok (.iload_n 1, 1) := by decide +kernel
theorem dX0_addMarket_58 : decode cX0_addMarket 58 = .ok (.iastore, 1) := by decide +kernel
theorem dX0_addMarket_59 : decode cX0_addMarket 59 = .ok (.aload_n 0, 1) := by decide +kernel
theorem dX0_addMarket_60 : decode cX0_addMarket 60 = .ok (.getfield 13, 3) := by decide +kernel
theorem dX0_addMarket_63 : decode cX0_addMarket 63 = .ok (.iload_n 3, 1) := by decide +kernel
theorem dX0_addMarket_64 : decode cX0_addMarket 64 = .ok (.iload_n 2, 1) := by decide +kernel
theorem dX0_addMarket_65 : decode cX0_addMarket 65 = .ok (.iastore, 1) := by decide +kernel
theorem dX0_addMarket_66 : decode cX0_addMarket 66 = .ok (.aload_n 0, 1) := by decide +kernel
theorem dX0_addMarket_67 : decode cX0_addMarket 67 = .ok (.iload_n 3, 1) := by decide +kernel
theorem dX0_addMarket_68 : decode cX0_addMarket 68 = .ok (.iconst 1, 1) := by decide +kernel
theorem dX0_addMarket_69 : decode cX0_addMarket 69 = .ok (.iadd, 1) := by decide +kernel
theorem dX0_addMarket_70 : decode cX0_addMarket 70 = .ok (.putfield 16, 3) := by decide +kernel
theorem dX0_addMarket_73 : decode cX0_addMarket 73 = .ok (.iload_n 3, 1) := by decide +kernel
theorem dX0_addMarket_74 : decode cX0_addMarket 74 = .ok (.ireturn, 1) := by decide +kernel
set_option maxRecDepth 20000 in
theorem ggX0_shift_X0_checkMarket : GoodIn wsX0_shift wsX0_checkMarket := goodIn_ca (goodIn_r _ [6, 7, 8, 9, 10, 11, 5, 12, 38, 39, 40, 41, 42, 43, 44, 45, 46, 47] (by decide +kernel) (by decide +kernel)) (goodIn_sub (fun _ h => List.mem_cons_of_mem _ (List.mem_append_left _ (List.mem_append_right _ h))) (by decide +kernel))
set_option maxRecDepth 20000 in
theorem gX0_shift_X0_checkMarket : GoodIn wsX0_shift (wsV RX0 60 RX0 yX0_checkMarket wsX0_checkMarket) := goodIn_app (goodIn_of _ (by decide +kernel)) ggX0_shift_X0_checkMarket
set_option maxRecDepth 20000 in
theorem ggX0_shift_X0_isWithin : GoodIn wsX0_shift wsX0_isWithin := goodIn_r _ [12] (by decide +kernel) (by decide +kernel)
set_option maxRecDepth 20000 in
theorem gX0_shift_X0_isWithin : GoodIn wsX0_shift (va_wsS RX0 41 yX0_isWithin wsX0_isWithin) := goodIn_app (goodIn_of _ (by decide +kernel)) ggX0_shift_X0_isWithin
set_option maxRecDepth 20000 in
theorem ggX0_shift_X0_checkArgument : GoodIn wsX0_shift wsX0_checkArgument := goodIn_ca (goodIn_r _ [15, 16, 17] (by decide +kernel) (by decide +kernel)) (goodIn_sub (fun _ h => List.mem_cons_of_mem _ (List.mem_append_right _ h)) (by decide +kernel))
set_option maxRecDepth 20000 in
theorem gX0_shift_X0_checkArgument : GoodIn wsX0_shift (va_wsS RX0 45 yX0_checkArgument wsX0_checkArgument) := goodIn_app (goodIn_of _ (by decide +kernel)) ggX0_shift_X0_checkArgument
set_option maxRecDepth 20000 in
theorem ggX0_shift_X0_placeOf : GoodIn wsX0_shift wsX0_placeOf := goodIn_r _ [21, 1, 22, 23, 24, 5, 25, 26, 38, 39, 40, 41, 42, 43, 44, 45, 46, 47] (by decide +kernel) (by decide +kernel)
set_option maxRecDepth 20000 in
theorem gX0_shift_X0_placeOf : GoodIn wsX0_shift (wsV RX0 64 RX0 yX0_placeOf wsX0_placeOf) := goodIn_app (goodIn_of _ (by decide +kernel)) ggX0_shift_X0_placeOf
set_option maxRecDepth 20000 in
theorem ggX0_shift_X0_lengthOf : GoodIn wsX0_shift wsX0_lengthOf := goodIn_r _ [30, 26, 22, 23, 24, 5, 25, 1, 38, 39, 40, 41, 42, 43, 44, 45, 46, 47] (by decide +kernel) (by decide +kernel)
set_option maxRecDepth 20000 in
theorem gX0_shift_X0_lengthOf : GoodIn wsX0_shift (wsV RX0 68 RX0 yX0_lengthOf wsX0_lengthOf) := goodIn_app (goodIn_of _ (by decide +kernel)) ggX0_shift_X0_lengthOf
set_option maxRecDepth 20000 in
theorem ggX0_shift_X0_modulo : GoodIn wsX0_shift wsX0_modulo := goodIn_r _ [33, 34, 35, 36, 37] (by decide +kernel) (by decide +kernel)
set_option maxRecDepth 20000 in
theorem gX0_shift_X0_modulo : GoodIn wsX0_shift (va_wsS RX0 71 yX0_modulo wsX0_modulo) := goodIn_app (goodIn_of _ (by decide +kernel)) ggX0_shift_X0_modulo
set_option maxRecDepth 20000 in
theorem ggX0_shift_X0_isPlace : GoodIn wsX0_shift wsX0_isPlace := goodIn_r _ [25, 26, 1, 38, 39, 40, 41, 42, 43, 44, 45, 46, 47] (by decide +kernel) (by decide +kernel)
set_option maxRecDepth 20000 in
theorem gX0_shift_X0_isPlace : GoodIn wsX0_shift (wsV RX0 49 RX0 yX0_isPlace wsX0_isPlace) := goodIn_app (goodIn_of _ (by decide +kernel)) ggX0_shift_X0_isPlace
theorem dX0_shift_0 : decode cX0_shift 0 = .ok (.aload_n 0, 1) := by decide +kernel
theorem dX0_shift_1 : decode cX0_shift 1 = .ok (.iload_n 1, 1) := by decide +kernel
theorem dX0_shift_2 : decode cX0_shift 2 = .ok (.invokevirtual 60, 3) := by decide +kernel
theorem dX0_shift_5 : decode cX0_shift 5 = .ok (.iload_n 2, 1) := by decide +kernel
theorem dX0_shift_6 : decode cX0_shift 6 = .ok (.bipush (-60), 2) := by decide +kernel
theorem dX0_shift_8 : decode cX0_shift 8 = .ok (.bipush 60, 2) := by decide +kernel
theorem dX0_shift_10 : decode cX0_shift 10 = .ok (.invokestatic 41, 3) := by decide +kernel
theorem dX0_shift_13 : decode cX0_shift 13 = .ok (.invokestatic 45, 3) := by decide +kernel
theorem dX0_shift_16 : decode cX0_shift 16 = .ok (.aload_n 0, 1) := by decide +kernel
theorem dX0_shift_17 : decode cX0_shift 17 = .ok (.iload_n 1, 1) := by decide +kernel
theorem dX0_shift_18 : decode cX0_shift 18 = .ok (.invokevirtual 64, 3) := by decide +kernel
theorem dX0_shift_21 : decode cX0_shift 21 = .ok (.iload_n 2, 1) := by decide +kernel
theorem dX0_shift_22 : decode cX0_shift 22 = .ok (.iadd, 1) := by decide +kernel
theorem dX0_shift_23 : decode cX0_shift 23 = .ok (.i2l, 1) := by decide +kernel
theorem dX0_shift_24 : decode cX0_shift 24 = .ok (.aload_n 0, 1) := by decide +kernel
theorem dX0_shift_25 : decode cX0_shift 25 = .ok (.iload_n 1, 1) := by decide +kernel
theorem dX0_shift_26 : decode cX0_shift 26 = .ok (.invokevirtual 68, 3) := by decide +kernel
theorem dX0_shift_29 : decode cX0_shift 29 = .ok (.i2l, 1) := by decide +kernel
theorem dX0_shift_30 : decode cX0_shift 30 = .ok (.invokestatic 71, 3) := by decide +kernel
theorem dX0_shift_33 : decode cX0_shift 33 = .ok (.l2i, 1) := by decide +kernel
theorem dX0_shift_34 : decode cX0_shift 34 = .ok (.istore_n 3, 1) := by decide +kernel
theorem dX0_shift_35 : decode cX0_shift 35 = .ok (.aload_n 0, 1) := by decide +kernel
theorem dX0_shift_36 : decode cX0_shift 36 = .ok (.iload_n 1, 1) := by decide +kernel
theorem dX0_shift_37 : decode cX0_shift 37 = .ok (.invokevirtual 49, 3) := by decide +kernel
theorem dX0_shift_40 : decode cX0_shift 40 = .ok (.ifCond .eq 10, 3) := by decide +kernel
theorem dX0_shift_43 : decode cX0_shift 43 = .ok (.aload_n 0, 1) := by decide +kernel
theorem dX0_shift_44 : decode cX0_shift 44 = .ok (.getfield 13, 3) := by decide +kernel
theorem dX0_shift_47 : decode cX0_shift 47 = .ok (.iload_n 1, 1) := by decide +kernel
theorem dX0_shift_48 : decode cX0_shift 48 = .ok (.iload_n 3, 1) := by decide +kernel
theorem dX0_shift_49 : decode cX0_shift 49 = .ok (.iastore, 1) := by decide +kernel
theorem dX0_shift_50 : decode cX0_shift 50 = .ok (.iload_n 3, 1) := by decide +kernel
theorem dX0_shift_51 : decode cX0_shift 51 = .ok (.ireturn, 1) := by decide +kernel
set_option maxRecDepth 20000 in
theorem ggX0_setMoon_X0_isWithin : GoodIn wsX0_setMoon wsX0_isWithin := goodIn_r _ [7] (by decide +kernel) (by decide +kernel)
set_option maxRecDepth 20000 in
theorem gX0_setMoon_X0_isWithin : GoodIn wsX0_setMoon (va_wsS RX0 41 yX0_isWithin wsX0_isWithin) := goodIn_app (goodIn_of _ (by decide +kernel)) ggX0_setMoon_X0_isWithin
set_option maxRecDepth 20000 in
theorem ggX0_setMoon_X0_checkArgument : GoodIn wsX0_setMoon wsX0_checkArgument := goodIn_ca (goodIn_r _ [10, 11, 12] (by decide +kernel) (by decide +kernel)) (goodIn_sub (fun _ h => List.mem_cons_of_mem _ (List.mem_append_right _ h)) (by decide +kernel))
set_option maxRecDepth 20000 in
theorem gX0_setMoon_X0_checkArgument : GoodIn wsX0_setMoon (va_wsS RX0 45 yX0_checkArgument wsX0_checkArgument) := goodIn_app (goodIn_of _ (by decide +kernel)) ggX0_setMoon_X0_checkArgument
theorem dX0_setMoon_0 : decode cX0_setMoon 0 = .ok (.iload_n 2, 1) := by decide +kernel
theorem dX0_setMoon_1 : decode cX0_setMoon 1 = .ok (.iconst 1, 1) := by decide +kernel
theorem dX0_setMoon_2 : decode cX0_setMoon 2 = .ok (.bipush 100, 2) := by decide +kernel
theorem dX0_setMoon_4 : decode cX0_setMoon 4 = .ok (.invokestatic 41, 3) := by decide +kernel
theorem dX0_setMoon_7 : decode cX0_setMoon 7 = .ok (.ifCond .eq 21, 3) := by decide +kernel
theorem dX0_setMoon_10 : decode cX0_setMoon 10 = .ok (.iload_n 1, 1) := by decide +kernel
theorem dX0_setMoon_11 : decode cX0_setMoon 11 = .ok (.iconst 2, 1) := by decide +kernel
theorem dX0_setMoon_12 : decode cX0_setMoon 12 = .ok (.iload_n 2, 1) := by decide +kernel
theorem dX0_setMoon_13 : decode cX0_setMoon 13 = .ok (.imul, 1) := by decide +kernel
theorem dX0_setMoon_14 : decode cX0_setMoon 14 = .ok (.bipush 100, 2) := by decide +kernel
theorem dX0_setMoon_16 : decode cX0_setMoon 16 = .ok (.iload_n 2, 1) := by decide +kernel
theorem dX0_setMoon_17 : decode cX0_setMoon 17 = .ok (.imul, 1) := by decide +kernel
theorem dX0_setMoon_18 : decode cX0_setMoon 18 = .ok (.invokestatic 41, 3) := by decide +kernel
theorem dX0_setMoon_21 : decode cX0_setMoon 21 = .ok (.ifCond .eq 7, 3) := by decide +kernel
theorem dX0_setMoon_24 : decode cX0_setMoon 24 = .ok (.iconst 1, 1) := by decide +kernel
theorem dX0_setMoon_25 : decode cX0_setMoon 25 = .ok (.goto 4, 3) := by decide +kernel
theorem dX0_setMoon_28 : decode cX0_setMoon 28 = .ok (.iconst 0, 1) := by decide +kernel
theorem dX0_setMoon_29 : decode cX0_setMoon 29 = .ok (.invokestatic 45, 3) := by decide +kernel
theorem dX0_setMoon_32 : decode cX0_setMoon 32 = .ok (.iload_n 3, 1) := by decide +kernel
theorem dX0_setMoon_33 : decode cX0_setMoon 33 = .ok (.sipush (-1000), 3) := by decide +kernel
theorem dX0_setMoon_36 : decode cX0_setMoon 36 = .ok (.sipush 1000, 3) := by decide +kernel
theorem dX0_setMoon_39 : decode cX0_setMoon 39 = .ok (.invokestatic 41, 3) := by decide +kernel
theorem dX0_setMoon_42 : decode cX0_setMoon 42 = .ok (.invokestatic 45, 3) := by decide +kernel
theorem dX0_setMoon_45 : decode cX0_setMoon 45 = .ok (.aload_n 0, 1) := by decide +kernel
theorem dX0_setMoon_46 : decode cX0_setMoon 46 = .ok (.iload_n 1, 1) := by decide +kernel
theorem dX0_setMoon_47 : decode cX0_setMoon 47 = .ok (.putfield 20, 3) := by decide +kernel
theorem dX0_setMoon_50 : decode cX0_setMoon 50 = .ok (.aload_n 0, 1) := by decide +kernel
theorem dX0_setMoon_51 : decode cX0_setMoon 51 = .ok (.iload_n 2, 1) := by decide +kernel
theorem dX0_setMoon_52 : decode cX0_setMoon 52 = .ok (.putfield 23, 3) := by decide +kernel
theorem dX0_setMoon_55 : decode cX0_setMoon 55 = .ok (.aload_n 0, 1) := by decide +kernel
theorem dX0_setMoon_56 : decode cX0_setMoon 56 = .ok (.iload_n 3, 1) := by decide +kernel
theorem dX0_setMoon_57 : decode cX0_setMoon 57 = .ok (.putfield 26, 3) := by decide +kernel
theorem dX0_setMoon_60 : decode cX0_setMoon 60 = .ok (.return_, 1) := by decide +kernel
set_option maxRecDepth 20000 in
theorem ggX0_setYear_X0_isWithin : GoodIn wsX0_setYear wsX0_isWithin := goodIn_r _ [8] (by decide +kernel) (by decide +kernel)
set_option maxRecDepth 20000 in
theorem gX0_setYear_X0_isWithin : GoodIn wsX0_setYear (va_wsS RX0 41 yX0_isWithin wsX0_isWithin) := goodIn_app (goodIn_of _ (by decide +kernel)) ggX0_setYear_X0_isWithin
set_option maxRecDepth 20000 in
theorem ggX0_setYear_X0_checkArgument : GoodIn wsX0_setYear wsX0_checkArgument := goodIn_ca (goodIn_r _ [11, 12, 13] (by decide +kernel) (by decide +kernel)) (goodIn_sub (fun _ h => List.mem_cons_of_mem _ (List.mem_append_right _ h)) (by decide +kernel))
set_option maxRecDepth 20000 in
theorem gX0_setYear_X0_checkArgument : GoodIn wsX0_setYear (va_wsS RX0 45 yX0_checkArgument wsX0_checkArgument) := goodIn_app (goodIn_of _ (by decide +kernel)) ggX0_setYear_X0_checkArgument
theorem dX0_setYear_0 : decode cX0_setYear 0 = .ok (.iload_n 1, 1) := by decide +kernel
theorem dX0_setYear_1 : decode cX0_setYear 1 = .ok (.bipush 100, 2) := by decide +kernel
theorem dX0_setYear_3 : decode cX0_setYear 3 = .ok (.sipush 500, 3) := by decide +kernel
theorem dX0_setYear_6 : decode cX0_setYear 6 = .ok (.invokestatic 41, 3) := by decide +kernel
theorem dX0_setYear_9 : decode cX0_setYear 9 = .ok (.ifCond .eq 19, 3) := by decide +kernel
theorem dX0_setYear_12 : decode cX0_setYear 12 = .ok (.iload 4, 2) := by decide +kernel
theorem dX0_setYear_14 : decode cX0_setYear 14 = .ok (.iconst 1, 1) := by decide +kernel
theorem dX0_setYear_15 : decode cX0_setYear 15 = .ok (.sipush 400, 3) := by decide +kernel
theorem dX0_setYear_18 : decode cX0_setYear 18 = .ok (.invokestatic 41, 3) := by decide +kernel
theorem dX0_setYear_21 : decode cX0_setYear 21 = .ok (.ifCond .eq 7, 3) := by decide +kernel
theorem dX0_setYear_24 : decode cX0_setYear 24 = .ok (.iconst 1, 1) := by decide +kernel
theorem dX0_setYear_25 : decode cX0_setYear 25 = .ok (.goto 4, 3) := by decide +kernel
theorem dX0_setYear_28 : decode cX0_setYear 28 = .ok (.iconst 0, 1) := by decide +kernel
theorem dX0_setYear_29 : decode cX0_setYear 29 = .ok (.invokestatic 45, 3) := by decide +kernel
theorem dX0_setYear_32 : decode cX0_setYear 32 = .ok (.iload_n 2, 1) := by decide +kernel
theorem dX0_setYear_33 : decode cX0_setYear 33 = .ok (.iconst 0, 1) := by decide +kernel
theorem dX0_setYear_34 : decode cX0_setYear 34 = .ok (.iload 4, 2) := by decide +kernel
theorem dX0_setYear_36 : decode cX0_setYear 36 = .ok (.invokestatic 41, 3) := by decide +kernel
theorem dX0_setYear_39 : decode cX0_setYear 39 = .ok (.ifCond .eq 19, 3) := by decide +kernel
theorem dX0_setYear_42 : decode cX0_setYear 42 = .ok (.iload_n 3, 1) := by decide +kernel
theorem dX0_setYear_43 : decode cX0_setYear 43 = .ok (.iconst 0, 1) := by decide +kernel
theorem dX0_setYear_44 : decode cX0_setYear 44 = .ok (.iload 4, 2) := by decide +kernel
theorem dX0_setYear_46 : decode cX0_setYear 46 = .ok (.iconst 1, 1) := by decide +kernel
theorem dX0_setYear_47 : decode cX0_setYear 47 = .ok (.isub, 1) := by decide +kernel
theorem dX0_setYear_48 : decode cX0_setYear 48 = .ok (.invokestatic 41, 3) := by decide +kernel
theorem dX0_setYear_51 : decode cX0_setYear 51 = .ok (.ifCond .eq 7, 3) := by decide +kernel
theorem dX0_setYear_54 : decode cX0_setYear 54 = .ok (.iconst 1, 1) := by decide +kernel
theorem dX0_setYear_55 : decode cX0_setYear 55 = .ok (.goto 4, 3) := by decide +kernel
theorem dX0_setYear_58 : decode cX0_setYear 58 = .ok (.iconst 0, 1) := by decide +kernel
theorem dX0_setYear_59 : decode cX0_setYear 59 = .ok (.invokestatic 45, 3) := by decide +kernel
theorem dX0_setYear_62 : decode cX0_setYear 62 = .ok (.aload_n 0, 1) := by decide +kernel
theorem dX0_setYear_63 : decode cX0_setYear 63 = .ok (.iload_n 1, 1) := by decide +kernel
theorem dX0_setYear_64 : decode cX0_setYear 64 = .ok (.putfield 29, 3) := by decide +kernel
theorem dX0_setYear_67 : decode cX0_setYear 67 = .ok (.aload_n 0, 1) := by decide +kernel
theorem dX0_setYear_68 : decode cX0_setYear 68 = .ok (.iload_n 2, 1) := by decide +kernel
theorem dX0_setYear_69 : decode cX0_setYear 69 = .ok (.putfield 32, 3) := by decide +kernel
theorem dX0_setYear_72 : decode cX0_setYear 72 = .ok (.aload_n 0, 1) := by decide +kernel
theorem dX0_setYear_73 : decode cX0_setYear 73 = .ok (.iload_n 3, 1) := by decide +kernel
theorem dX0_setYear_74 : decode cX0_setYear 74 = .ok (.putfield 35, 3) := by decide +kernel
theorem dX0_setYear_77 : decode cX0_setYear 77 = .ok (.aload_n 0, 1) := by decide +kernel
theorem dX0_setYear_78 : decode cX0_setYear 78 = .ok (.iload 4, 2) := by decide +kernel
theorem dX0_setYear_80 : decode cX0_setYear 80 = .ok (.putfield 38, 3) := by decide +kernel
theorem dX0_setYear_83 : decode cX0_setYear 83 = .ok (.return_, 1) := by decide +kernel
theorem dX0_markets_0 : decode cX0_markets 0 = .ok (.aload_n 0, 1) := by decide +kernel
theorem dX0_markets_1 : decode cX0_markets 1 = .ok (.getfield 16, 3) := by decide +kernel
theorem dX0_markets_4 : decode cX0_markets 4 = .ok (.ireturn, 1) := by decide +kernel
set_option maxRecDepth 20000 in
theorem ggX0_isHeld_X0_checkMarket : GoodIn wsX0_isHeld wsX0_checkMarket := goodIn_ca (goodIn_r _ [5, 6, 7, 8, 9, 10, 4, 11, 47, 48, 49, 50, 51, 52, 53, 54, 55, 56] (by decide +kernel) (by decide +kernel)) (goodIn_sub (fun _ h => List.mem_cons_of_mem _ (List.mem_append_left _ (List.mem_append_right _ h))) (by decide +kernel))
set_option maxRecDepth 20000 in
theorem gX0_isHeld_X0_checkMarket : GoodIn wsX0_isHeld (wsV RX0 60 RX0 yX0_checkMarket wsX0_checkMarket) := goodIn_app (goodIn_of _ (by decide +kernel)) ggX0_isHeld_X0_checkMarket
set_option maxRecDepth 20000 in
theorem ggX0_isHeld_X0_checkDay : GoodIn wsX0_isHeld wsX0_checkDay := goodIn_ca (goodIn_r _ [14, 15, 16, 9, 10, 4, 11, 17, 18, 19, 20, 21] (by decide +kernel) (by decide +kernel)) (goodIn_sub (fun _ h => List.mem_cons_of_mem _ (List.mem_append_right _ h)) (by decide +kernel))
set_option maxRecDepth 20000 in
theorem gX0_isHeld_X0_checkDay : GoodIn wsX0_isHeld (va_wsS RX0 75 yX0_checkDay wsX0_checkDay) := goodIn_app (goodIn_of _ (by decide +kernel)) ggX0_isHeld_X0_checkDay
set_option maxRecDepth 20000 in
theorem ggX0_isHeld_X0_isOn : GoodIn wsX0_isHeld wsX0_isOn := goodIn_r _ [25, 26, 27, 28, 4, 29, 30, 31, 32, 33, 34, 35, 36, 37, 38, 39, 40, 41, 42, 43, 44, 45, 46, 47, 48, 49, 50, 51, 52, 53, 54, 55, 56] (by decide +kernel) (by decide +kernel)
set_option maxRecDepth 20000 in
theorem gX0_isHeld_X0_isOn : GoodIn wsX0_isHeld (wsV RX0 78 RX0 yX0_isOn wsX0_isOn) := goodIn_app (goodIn_of _ (by decide +kernel)) ggX0_isHeld_X0_isOn
theorem dX0_isHeld_0 : decode cX0_isHeld 0 = .ok (.aload_n 0, 1) := by decide +kernel
theorem dX0_isHeld_1 : decode cX0_isHeld 1 = .ok (.iload_n 1, 1) := by decide +kernel
theorem dX0_isHeld_2 : decode cX0_isHeld 2 = .ok (.invokevirtual 60, 3) := by decide +kernel
theorem dX0_isHeld_5 : decode cX0_isHeld 5 = .ok (.iload_n 2, 1) := by decide +kernel
theorem dX0_isHeld_6 : decode cX0_isHeld 6 = .ok (.invokestatic 75, 3) := by decide +kernel
theorem dX0_isHeld_9 : decode cX0_isHeld 9 = .ok (.aload_n 0, 1) := by decide +kernel
theorem dX0_isHeld_10 : decode cX0_isHeld 10 = .ok (.iload_n 1, 1) := by decide +kernel
theorem dX0_isHeld_11 : decode cX0_isHeld 11 = .ok (.iload_n 2, 1) := by decide +kernel
theorem dX0_isHeld_12 : decode cX0_isHeld 12 = .ok (.i2l, 1) := by decide +kernel
theorem dX0_isHeld_13 : decode cX0_isHeld 13 = .ok (.invokevirtual 78, 3) := by decide +kernel
theorem dX0_isHeld_16 : decode cX0_isHeld 16 = .ok (.ireturn, 1) := by decide +kernel
set_option maxRecDepth 20000 in
theorem ggX0_next_X0_checkMarket : GoodIn wsX0_next wsX0_checkMarket := goodIn_ca (goodIn_r _ [5, 6, 7, 8, 9, 10, 4, 11, 43, 44, 45, 46, 47, 48, 49, 50, 51, 52] (by decide +kernel) (by decide +kernel)) (goodIn_sub (fun _ h => List.mem_cons_of_mem _ (List.mem_append_left _ (List.mem_append_right _ h))) (by decide +kernel))
set_option maxRecDepth 20000 in
theorem gX0_next_X0_checkMarket : GoodIn wsX0_next (wsV RX0 60 RX0 yX0_checkMarket wsX0_checkMarket) := goodIn_app (goodIn_of _ (by decide +kernel)) ggX0_next_X0_checkMarket
set_option maxRecDepth 20000 in
theorem ggX0_next_X0_checkDay : GoodIn wsX0_next wsX0_checkDay := goodIn_ca (goodIn_r _ [14, 15, 16, 9, 10, 4, 11, 17, 18, 19, 20, 21] (by decide +kernel) (by decide +kernel)) (goodIn_sub (fun _ h => List.mem_cons_of_mem _ (List.mem_append_right _ h)) (by decide +kernel))
set_option maxRecDepth 20000 in
theorem gX0_next_X0_checkDay : GoodIn wsX0_next (va_wsS RX0 75 yX0_checkDay wsX0_checkDay) := goodIn_app (goodIn_of _ (by decide +kernel)) ggX0_next_X0_checkDay
set_option maxRecDepth 20000 in
theorem ggX0_next_X0_placeOf : GoodIn wsX0_next wsX0_placeOf := goodIn_r _ [25, 26, 27, 28, 29, 4, 30, 31, 43, 44, 45, 46, 47, 48, 49, 50, 51, 52] (by decide +kernel) (by decide +kernel)
set_option maxRecDepth 20000 in
theorem gX0_next_X0_placeOf : GoodIn wsX0_next (wsV RX0 64 RX0 yX0_placeOf wsX0_placeOf) := goodIn_app (goodIn_of _ (by decide +kernel)) ggX0_next_X0_placeOf
set_option maxRecDepth 20000 in
theorem ggX0_next_X0_lengthOf : GoodIn wsX0_next wsX0_lengthOf := goodIn_r _ [35, 31, 27, 28, 29, 4, 30, 26, 43, 44, 45, 46, 47, 48, 49, 50, 51, 52] (by decide +kernel) (by decide +kernel)
set_option maxRecDepth 20000 in
theorem gX0_next_X0_lengthOf : GoodIn wsX0_next (wsV RX0 68 RX0 yX0_lengthOf wsX0_lengthOf) := goodIn_app (goodIn_of _ (by decide +kernel)) ggX0_next_X0_lengthOf
set_option maxRecDepth 20000 in
theorem ggX0_next_X0_modulo : GoodIn wsX0_next wsX0_modulo := goodIn_r _ [38, 39, 40, 41, 42] (by decide +kernel) (by decide +kernel)
set_option maxRecDepth 20000 in
theorem gX0_next_X0_modulo : GoodIn wsX0_next (va_wsS RX0 71 yX0_modulo wsX0_modulo) := goodIn_app (goodIn_of _ (by decide +kernel)) ggX0_next_X0_modulo
theorem dX0_next_0 : decode cX0_next 0 = .ok (.aload_n 0, 1) := by decide +kernel
theorem dX0_next_1 : decode cX0_next 1 = .ok (.iload_n 1, 1) := by decide +kernel
theorem dX0_next_2 : decode cX0_next 2 = .ok (.invokevirtual 60, 3) := by decide +kernel
theorem dX0_next_5 : decode cX0_next 5 = .ok (.iload_n 2, 1) := by decide +kernel
theorem dX0_next_6 : decode cX0_next 6 = .ok (.invokestatic 75, 3) := by decide +kernel
theorem dX0_next_9 : decode cX0_next 9 = .ok (.iload_n 2, 1) := by decide +kernel
theorem dX0_next_10 : decode cX0_next 10 = .ok (.i2l, 1) := by decide +kernel
theorem dX0_next_11 : decode cX0_next 11 = .ok (.aload_n 0, 1) := by decide +kernel
theorem dX0_next_12 : decode cX0_next 12 = .ok (.iload_n 1, 1) := by decide +kernel
theorem dX0_next_13 : decode cX0_next 13 = .ok (.invokevirtual 64, 3) := by decide +kernel
theorem dX0_next_16 : decode cX0_next 16 = .ok (.iload_n 2, 1) := by decide +kernel
theorem dX0_next_17 : decode cX0_next 17 = .ok (.isub, 1) := by decide +kernel
theorem dX0_next_18 : decode cX0_next 18 = .ok (.i2l, 1) := by decide +kernel
theorem dX0_next_19 : decode cX0_next 19 = .ok (.aload_n 0, 1) := by decide +kernel
theorem dX0_next_20 : decode cX0_next 20 = .ok (.iload_n 1, 1) := by decide +kernel
theorem dX0_next_21 : decode cX0_next 21 = .ok (.invokevirtual 68, 3) := by decide +kernel
theorem dX0_next_24 : decode cX0_next 24 = .ok (.i2l, 1) := by decide +kernel
theorem dX0_next_25 : decode cX0_next 25 = .ok (.invokestatic 71, 3) := by decide +kernel
theorem dX0_next_28 : decode cX0_next 28 = .ok (.ladd, 1) := by decide +kernel
theorem dX0_next_29 : decode cX0_next 29 = .ok (.l2i, 1) := by decide +kernel
theorem dX0_next_30 : decode cX0_next 30 = .ok (.ireturn, 1) := by decide +kernel
set_option maxRecDepth 20000 in
theorem ggX0_nearest_X0_checkMarket : GoodIn wsX0_nearest wsX0_checkMarket := goodIn_ca (goodIn_r _ [5, 6, 7, 8, 9, 10, 4, 11, 43, 44, 45, 46, 47, 48, 49, 50, 51, 52] (by decide +kernel) (by decide +kernel)) (goodIn_sub (fun _ h => List.mem_cons_of_mem _ (List.mem_append_left _ (List.mem_append_right _ h))) (by decide +kernel))
set_option maxRecDepth 20000 in
theorem gX0_nearest_X0_checkMarket : GoodIn wsX0_nearest (wsV RX0 60 RX0 yX0_checkMarket wsX0_checkMarket) := goodIn_app (goodIn_of _ (by decide +kernel)) ggX0_nearest_X0_checkMarket
set_option maxRecDepth 20000 in
theorem ggX0_nearest_X0_checkDay : GoodIn wsX0_nearest wsX0_checkDay := goodIn_ca (goodIn_r _ [14, 15, 16, 9, 10, 4, 11, 17, 18, 19, 20, 21] (by decide +kernel) (by decide +kernel)) (goodIn_sub (fun _ h => List.mem_cons_of_mem _ (List.mem_append_right _ h)) (by decide +kernel))
set_option maxRecDepth 20000 in
theorem gX0_nearest_X0_checkDay : GoodIn wsX0_nearest (va_wsS RX0 75 yX0_checkDay wsX0_checkDay) := goodIn_app (goodIn_of _ (by decide +kernel)) ggX0_nearest_X0_checkDay
set_option maxRecDepth 20000 in
theorem ggX0_nearest_X0_lengthOf : GoodIn wsX0_nearest wsX0_lengthOf := goodIn_r _ [25, 26, 27, 28, 29, 4, 30, 31, 43, 44, 45, 46, 47, 48, 49, 50, 51, 52] (by decide +kernel) (by decide +kernel)
set_option maxRecDepth 20000 in
theorem gX0_nearest_X0_lengthOf : GoodIn wsX0_nearest (wsV RX0 68 RX0 yX0_lengthOf wsX0_lengthOf) := goodIn_app (goodIn_of _ (by decide +kernel)) ggX0_nearest_X0_lengthOf
set_option maxRecDepth 20000 in
theorem ggX0_nearest_X0_placeOf : GoodIn wsX0_nearest wsX0_placeOf := goodIn_r _ [35, 31, 27, 28, 29, 4, 30, 26, 43, 44, 45, 46, 47, 48, 49, 50, 51, 52] (by decide +kernel) (by decide +kernel)
set_option maxRecDepth 20000 in
theorem gX0_nearest_X0_placeOf : GoodIn wsX0_nearest (wsV RX0 64 RX0 yX0_placeOf wsX0_placeOf) := goodIn_app (goodIn_of _ (by decide +kernel)) ggX0_nearest_X0_placeOf
set_option maxRecDepth 20000 in
theorem ggX0_nearest_X0_modulo : GoodIn wsX0_nearest wsX0_modulo := goodIn_r _ [38, 39, 40, 41, 42] (by decide +kernel) (by decide +kernel)
set_option maxRecDepth 20000 in
theorem gX0_nearest_X0_modulo : GoodIn wsX0_nearest (va_wsS RX0 71 yX0_modulo wsX0_modulo) := goodIn_app (goodIn_of _ (by decide +kernel)) ggX0_nearest_X0_modulo
theorem dX0_nearest_0 : decode cX0_nearest 0 = .ok (.aload_n 0, 1) := by decide +kernel
theorem dX0_nearest_1 : decode cX0_nearest 1 = .ok (.iload_n 1, 1) := by decide +kernel
theorem dX0_nearest_2 : decode cX0_nearest 2 = .ok (.invokevirtual 60, 3) := by decide +kernel
theorem dX0_nearest_5 : decode cX0_nearest 5 = .ok (.iload_n 2, 1) := by decide +kernel
theorem dX0_nearest_6 : decode cX0_nearest 6 = .ok (.invokestatic 75, 3) := by decide +kernel
theorem dX0_nearest_9 : decode cX0_nearest 9 = .ok (.aload_n 0, 1) := by decide +kernel
theorem dX0_nearest_10 : decode cX0_nearest 10 = .ok (.iload_n 1, 1) := by decide +kernel
theorem dX0_nearest_11 : decode cX0_nearest 11 = .ok (.invokevirtual 68, 3) := by decide +kernel
theorem dX0_nearest_14 : decode cX0_nearest 14 = .ok (.istore_n 3, 1) := by decide +kernel
theorem dX0_nearest_15 : decode cX0_nearest 15 = .ok (.iload_n 2, 1) := by decide +kernel
theorem dX0_nearest_16 : decode cX0_nearest 16 = .ok (.aload_n 0, 1) := by decide +kernel
theorem dX0_nearest_17 : decode cX0_nearest 17 = .ok (.iload_n 1, 1) := by decide +kernel
theorem dX0_nearest_18 : decode cX0_nearest 18 = .ok (.invokevirtual 64, 3) := by decide +kernel
theorem dX0_nearest_21 : decode cX0_nearest 21 = .ok (.isub, 1) := by decide +kernel
theorem dX0_nearest_22 : decode cX0_nearest 22 = .ok (.i2l, 1) := by decide +kernel
theorem dX0_nearest_23 : decode cX0_nearest 23 = .ok (.iload_n 3, 1) := by decide +kernel
theorem dX0_nearest_24 : decode cX0_nearest 24 = .ok (.i2l, 1) := by decide +kernel
theorem dX0_nearest_25 : decode cX0_nearest 25 = .ok (.invokestatic 71, 3) := by decide +kernel
theorem dX0_nearest_28 : decode cX0_nearest 28 = .ok (.l2i, 1) := by decide +kernel
theorem dX0_nearest_29 : decode cX0_nearest 29 = .ok (.istore 4, 2) := by decide +kernel
theorem dX0_nearest_31 : decode cX0_nearest 31 = .ok (.iload_n 2, 1) := by decide +kernel
theorem dX0_nearest_32 : decode cX0_nearest 32 = .ok (.iload 4, 2) := by decide +kernel
theorem dX0_nearest_34 : decode cX0_nearest 34 = .ok (.isub, 1) := by decide +kernel
theorem dX0_nearest_35 : decode cX0_nearest 35 = .ok (.istore 5, 2) := by decide +kernel
theorem dX0_nearest_37 : decode cX0_nearest 37 = .ok (.iload 4, 2) := by decide +kernel
theorem dX0_nearest_39 : decode cX0_nearest 39 = .ok (.iload_n 3, 1) := by decide +kernel
theorem dX0_nearest_40 : decode cX0_nearest 40 = .ok (.iload 4, 2) := by decide +kernel
theorem dX0_nearest_42 : decode cX0_nearest 42 = .ok (.isub, 1) := by decide +kernel
theorem dX0_nearest_43 : decode cX0_nearest 43 = .ok (.if_icmp .gt 8, 3) := by decide +kernel
theorem dX0_nearest_46 : decode cX0_nearest 46 = .ok (.iload 5, 2) := by decide +kernel
theorem dX0_nearest_48 : decode cX0_nearest 48 = .ok (.goto 7, 3) := by decide +kernel
theorem dX0_nearest_51 : decode cX0_nearest 51 = .ok (.iload 5, 2) := by decide +kernel
theorem dX0_nearest_53 : decode cX0_nearest 53 = .ok (.iload_n 3, 1) := by decide +kernel
theorem dX0_nearest_54 : decode cX0_nearest 54 = .ok (.iadd, 1) := by decide +kernel
theorem dX0_nearest_55 : decode cX0_nearest 55 = .ok (.ireturn, 1) := by decide +kernel
set_option maxRecDepth 20000 in
theorem ggX0_times_X0_checkMarket : GoodIn wsX0_times wsX0_checkMarket := goodIn_ca (goodIn_r _ [5, 6, 7, 8, 9, 10, 4, 11, 47, 48, 49, 50, 51, 52, 53, 54, 55, 56] (by decide +kernel) (by decide +kernel)) (goodIn_sub (fun _ h => List.mem_cons_of_mem _ (List.mem_append_left _ (List.mem_append_right _ h))) (by decide +kernel))
set_option maxRecDepth 20000 in
theorem gX0_times_X0_checkMarket : GoodIn wsX0_times (wsV RX0 60 RX0 yX0_checkMarket wsX0_checkMarket) := goodIn_app (goodIn_of _ (by decide +kernel)) ggX0_times_X0_checkMarket
set_option maxRecDepth 20000 in
theorem ggX0_times_X0_checkDay : GoodIn wsX0_times wsX0_checkDay := goodIn_ca (goodIn_r _ [14, 15, 16, 9, 10, 4, 11, 17, 18, 19, 20, 21] (by decide +kernel) (by decide +kernel)) (goodIn_sub (fun _ h => List.mem_cons_of_mem _ (List.mem_append_right _ h)) (by decide +kernel))
set_option maxRecDepth 20000 in
theorem gX0_times_X0_checkDay : GoodIn wsX0_times (va_wsS RX0 75 yX0_checkDay wsX0_checkDay) := goodIn_app (goodIn_of _ (by decide +kernel)) ggX0_times_X0_checkDay
set_option maxRecDepth 20000 in
theorem ggX0_times_X0_checkArgument : GoodIn wsX0_times wsX0_checkArgument := goodIn_ca (goodIn_r _ [19, 20, 21] (by decide +kernel) (by decide +kernel)) (goodIn_sub (fun _ h => List.mem_cons_of_mem _ (List.mem_append_right _ h)) (by decide +kernel))
set_option maxRecDepth 20000 in
theorem gX0_times_X0_checkArgument : GoodIn wsX0_times (va_wsS RX0 45 yX0_checkArgument wsX0_checkArgument) := goodIn_app (goodIn_of _ (by decide +kernel)) ggX0_times_X0_checkArgument
set_option maxRecDepth 20000 in
theorem ggX0_times_X0_countHeld : GoodIn wsX0_times wsX0_countHeld := goodIn_r _ [25, 26, 27, 28, 4, 29, 30, 31, 32, 33, 34, 35, 36, 37, 38, 39, 40, 41, 42, 43, 44, 45, 46, 47, 48, 49, 50, 51, 52, 53, 54, 55, 56] (by decide +kernel) (by decide +kernel)
set_option maxRecDepth 20000 in
theorem gX0_times_X0_countHeld : GoodIn wsX0_times (wsV RX0 82 RX0 yX0_countHeld wsX0_countHeld) := goodIn_app (goodIn_of _ (by decide +kernel)) ggX0_times_X0_countHeld
theorem dX0_times_0 : decode cX0_times 0 = .ok (.aload_n 0, 1) := by decide +kernel
theorem dX0_times_1 : decode cX0_times 1 = .ok (.iload_n 1, 1) := by decide +kernel
theorem dX0_times_2 : decode cX0_times 2 = .ok (.invokevirtual 60, 3) := by decide +kernel
theorem dX0_times_5 : decode cX0_times 5 = .ok (.iload_n 2, 1) := by decide +kernel
theorem dX0_times_6 : decode cX0_times 6 = .ok (.invokestatic 75, 3) := by decide +kernel
theorem dX0_times_9 : decode cX0_times 9 = .ok (.iload_n 3, 1) := by decide +kernel
theorem dX0_times_10 : decode cX0_times 10 = .ok (.invokestatic 75, 3) := by decide +kernel
theorem dX0_times_13 : decode cX0_times 13 = .ok (.iload_n 3, 1) := by decide +kernel
theorem dX0_times_14 : decode cX0_times 14 = .ok (.iload_n 2, 1) := by decide +kernel
theorem dX0_times_15 : decode cX0_times 15 = .ok (.if_icmp .lt 7, 3) := by decide +kernel
theorem dX0_times_18 : decode cX0_times 18 = .ok (.iconst 1, 1) := by decide +kernel
theorem dX0_times_19 : decode cX0_times 19 = .ok (.goto 4, 3) := by decide +kernel
theorem dX0_times_22 : decode cX0_times 22 = .ok (.iconst 0, 1) := by decide +kernel
theorem dX0_times_23 : decode cX0_times 23 = .ok (.invokestatic 45, 3) := by decide +kernel
theorem dX0_times_26 : decode cX0_times 26 = .ok (.aload_n 0, 1) := by decide +kernel
theorem dX0_times_27 : decode cX0_times 27 = .ok (.iload_n 1, 1) := by decide +kernel
theorem dX0_times_28 : decode cX0_times 28 = .ok (.iload_n 2, 1) := by decide +kernel
theorem dX0_times_29 : decode cX0_times 29 = .ok (.iload_n 3, 1) := by decide +kernel
theorem dX0_times_30 : decode cX0_times 30 = .ok (.invokevirtual 82, 3) := by decide +kernel
theorem dX0_times_33 : decode cX0_times 33 = .ok (.ireturn, 1) := by decide +kernel
set_option maxRecDepth 20000 in
theorem ggX0_heldOn_X0_checkDay : GoodIn wsX0_heldOn wsX0_checkDay := goodIn_ca (goodIn_r _ [4, 5, 6, 7, 8, 3, 9, 10, 11, 12, 13, 14] (by decide +kernel) (by decide +kernel)) (goodIn_sub (fun _ h => List.mem_cons_of_mem _ (List.mem_append_right _ h)) (by decide +kernel))
set_option maxRecDepth 20000 in
theorem gX0_heldOn_X0_checkDay : GoodIn wsX0_heldOn (va_wsS RX0 75 yX0_checkDay wsX0_checkDay) := goodIn_app (goodIn_of _ (by decide +kernel)) ggX0_heldOn_X0_checkDay
set_option maxRecDepth 20000 in
theorem ggX0_heldOn_X0_setOn : GoodIn wsX0_heldOn wsX0_setOn := goodIn_r _ [18, 19, 20, 21, 22, 3, 23, 24, 25, 26, 27, 28, 29, 30, 31, 32, 33, 34, 35, 36, 37, 38, 39, 40, 41, 42, 43, 44, 45, 46, 47, 48, 49, 50, 51, 52, 53, 54] (by decide +kernel) (by decide +kernel)
set_option maxRecDepth 20000 in
theorem gX0_heldOn_X0_setOn : GoodIn wsX0_heldOn (wsV RX0 86 RX0 yX0_setOn wsX0_setOn) := goodIn_app (goodIn_of _ (by decide +kernel)) ggX0_heldOn_X0_setOn
theorem dX0_heldOn_0 : decode cX0_heldOn 0 = .ok (.iload_n 1, 1) := by decide +kernel
theorem dX0_heldOn_1 : decode cX0_heldOn 1 = .ok (.invokestatic 75, 3) := by decide +kernel
theorem dX0_heldOn_4 : decode cX0_heldOn 4 = .ok (.aload_n 0, 1) := by decide +kernel
theorem dX0_heldOn_5 : decode cX0_heldOn 5 = .ok (.iload_n 1, 1) := by decide +kernel
theorem dX0_heldOn_6 : decode cX0_heldOn 6 = .ok (.invokevirtual 86, 3) := by decide +kernel
theorem dX0_heldOn_9 : decode cX0_heldOn 9 = .ok (.ireturn, 1) := by decide +kernel
set_option maxRecDepth 20000 in
theorem ggX0_doMeet_X0_checkMeetingSet : GoodIn wsX0_doMeet wsX0_checkMeetingSet := goodIn_ca (goodIn_ca (goodIn_r _ [6, 7, 8, 9, 10, 11, 12, 13, 14, 15, 5, 16, 17, 18, 19, 20, 21, 22, 23, 24, 25, 26, 27, 28, 65, 66, 67, 68, 69, 70, 71, 72, 73, 74] (by decide +kernel) (by decide +kernel)) (goodIn_sub (fun _ h => List.mem_cons_of_mem _ (List.mem_append_left _ (List.mem_append_right _ h))) (by decide +kernel))) (goodIn_sub (fun _ h => List.mem_cons_of_mem _ (List.mem_append_right _ h)) (by decide +kernel))
set_option maxRecDepth 20000 in
theorem gX0_doMeet_X0_checkMeetingSet : GoodIn wsX0_doMeet (wsV RX0 89 RX0 yX0_checkMeetingSet wsX0_checkMeetingSet) := goodIn_app (goodIn_of _ (by decide +kernel)) ggX0_doMeet_X0_checkMeetingSet
set_option maxRecDepth 20000 in
theorem ggX0_doMeet_X0_firstMeeting : GoodIn wsX0_doMeet wsX0_firstMeeting := goodIn_r _ [32, 28, 1, 33, 34, 35, 5, 36, 37, 38, 39, 40, 41, 42, 43, 44, 45, 46, 47, 48, 49, 50, 51, 52, 53, 54, 55, 56, 57, 58, 59, 60, 61, 62, 63, 64, 65, 66, 67, 68, 69, 70, 71, 72, 73, 74] (by decide +kernel) (by decide +kernel)
set_option maxRecDepth 20000 in
theorem gX0_doMeet_X0_firstMeeting : GoodIn wsX0_doMeet (wsV RX0 92 RX0 yX0_firstMeeting wsX0_firstMeeting) := goodIn_app (goodIn_of _ (by decide +kernel)) ggX0_doMeet_X0_firstMeeting
theorem dX0_doMeet_0 : decode cX0_doMeet 0 = .ok (.aload_n 0, 1) := by decide +kernel
theorem dX0_doMeet_1 : decode cX0_doMeet 1 = .ok (.iload_n 1, 1) := by decide +kernel
theorem dX0_doMeet_2 : decode cX0_doMeet 2 = .ok (.invokevirtual 89, 3) := by decide +kernel
theorem dX0_doMeet_5 : decode cX0_doMeet 5 = .ok (.aload_n 0, 1) := by decide +kernel
theorem dX0_doMeet_6 : decode cX0_doMeet 6 = .ok (.iload_n 1, 1) := by decide +kernel
theorem dX0_doMeet_7 : decode cX0_doMeet 7 = .ok (.invokevirtual 92, 3) := by decide +kernel
theorem dX0_doMeet_10 : decode cX0_doMeet 10 = .ok (.ldc2_w 96, 3) := by decide +kernel
theorem dX0_doMeet_13 : decode cX0_doMeet 13 = .ok (.lcmp, 1) := by decide +kernel
theorem dX0_doMeet_14 : decode cX0_doMeet 14 = .ok (.ifCond .eq 7, 3) := by decide +kernel
theorem dX0_doMeet_17 : decode cX0_doMeet 17 = .ok (.iconst 1, 1) := by decide +kernel
theorem dX0_doMeet_18 : decode cX0_doMeet 18 = .ok (.goto 4, 3) := by decide +kernel
theorem dX0_doMeet_21 : decode cX0_doMeet 21 = .ok (.iconst 0, 1) := by decide +kernel
theorem dX0_doMeet_22 : decode cX0_doMeet 22 = .ok (.ireturn, 1) := by decide +kernel
set_option maxRecDepth 20000 in
theorem ggX0_period_X0_checkMeetingSet : GoodIn wsX0_period wsX0_checkMeetingSet := goodIn_ca (goodIn_ca (goodIn_r _ [5, 6, 7, 8, 9, 10, 11, 12, 13, 14, 4, 15, 16, 17, 18, 19, 20, 21, 22, 23, 24, 25, 26, 27, 74, 75, 76, 77, 78, 79, 80, 81, 82, 83] (by decide +kernel) (by decide +kernel)) (goodIn_sub (fun _ h => List.mem_cons_of_mem _ (List.mem_append_left _ (List.mem_append_left _ (List.mem_append_right _ h)))) (by decide +kernel))) (goodIn_sub (fun _ h => List.mem_cons_of_mem _ (List.mem_append_left _ (List.mem_append_right _ h))) (by decide +kernel))
set_option maxRecDepth 20000 in
theorem gX0_period_X0_checkMeetingSet : GoodIn wsX0_period (wsV RX0 89 RX0 yX0_checkMeetingSet wsX0_checkMeetingSet) := goodIn_app (goodIn_of _ (by decide +kernel)) ggX0_period_X0_checkMeetingSet
set_option maxRecDepth 20000 in
theorem ggX0_period_X0_firstMeeting : GoodIn wsX0_period wsX0_firstMeeting := goodIn_r _ [31, 27, 32, 33, 34, 35, 4, 36, 37, 38, 39, 40, 41, 42, 43, 44, 45, 46, 47, 48, 49, 50, 51, 52, 53, 54, 55, 56, 57, 58, 59, 60, 61, 62, 63, 64, 74, 75, 76, 77, 78, 79, 80, 81, 82, 83] (by decide +kernel) (by decide +kernel)
set_option maxRecDepth 20000 in
theorem gX0_period_X0_firstMeeting : GoodIn wsX0_period (wsV RX0 92 RX0 yX0_firstMeeting wsX0_firstMeeting) := goodIn_app (goodIn_of _ (by decide +kernel)) ggX0_period_X0_firstMeeting
set_option maxRecDepth 20000 in
theorem ggX0_period_X0_checkTheyMeet : GoodIn wsX0_period wsX0_checkTheyMeet := goodIn_ca (goodIn_r _ [67, 68, 69, 32] (by decide +kernel) (by decide +kernel)) (goodIn_sub (fun _ h => List.mem_cons_of_mem _ (List.mem_append_right _ h)) (by decide +kernel))
set_option maxRecDepth 20000 in
theorem gX0_period_X0_checkTheyMeet : GoodIn wsX0_period (va_wsS RX0 98 yX0_checkTheyMeet wsX0_checkTheyMeet) := goodIn_app (goodIn_of _ (by decide +kernel)) ggX0_period_X0_checkTheyMeet
set_option maxRecDepth 20000 in
theorem ggX0_period_X0_commonLength : GoodIn wsX0_period wsX0_commonLength := goodIn_r _ [73, 27, 37, 38, 39, 4, 40, 41, 42, 43, 44, 45, 46, 62, 63, 64, 51, 52, 53, 54, 55, 56, 57, 74, 75, 76, 77, 78, 79, 80, 81, 82, 83] (by decide +kernel) (by decide +kernel)
set_option maxRecDepth 20000 in
theorem gX0_period_X0_commonLength : GoodIn wsX0_period (wsV RX0 102 RX0 yX0_commonLength wsX0_commonLength) := goodIn_app (goodIn_of _ (by decide +kernel)) ggX0_period_X0_commonLength
theorem dX0_period_0 : decode cX0_period 0 = .ok (.aload_n 0, 1) := by decide +kernel
theorem dX0_period_1 : decode cX0_period 1 = .ok (.iload_n 1, 1) := by decide +kernel
theorem dX0_period_2 : decode cX0_period 2 = .ok (.invokevirtual 89, 3) := by decide +kernel
theorem dX0_period_5 : decode cX0_period 5 = .ok (.aload_n 0, 1) := by decide +kernel
theorem dX0_period_6 : decode cX0_period 6 = .ok (.iload_n 1, 1) := by decide +kernel
theorem dX0_period_7 : decode cX0_period 7 = .ok (.invokevirtual 92, 3) := by decide +kernel
theorem dX0_period_10 : decode cX0_period 10 = .ok (.invokestatic 98, 3) := by decide +kernel
theorem dX0_period_13 : decode cX0_period 13 = .ok (.aload_n 0, 1) := by decide +kernel
theorem dX0_period_14 : decode cX0_period 14 = .ok (.iload_n 1, 1) := by decide +kernel
theorem dX0_period_15 : decode cX0_period 15 = .ok (.invokevirtual 102, 3) := by decide +kernel
theorem dX0_period_18 : decode cX0_period 18 = .ok (.l2i, 1) := by decide +kernel
theorem dX0_period_19 : decode cX0_period 19 = .ok (.ireturn, 1) := by decide +kernel
set_option maxRecDepth 20000 in
theorem ggX0_meeting_X0_checkDay : GoodIn wsX0_meeting wsX0_checkDay := goodIn_ca (goodIn_r _ [4, 5, 6, 7, 8, 3, 9, 10, 11, 12, 13, 14] (by decide +kernel) (by decide +kernel)) (goodIn_sub (fun _ h => List.mem_cons_of_mem _ (List.mem_append_left _ (List.mem_append_left _ (List.mem_append_right _ h)))) (by decide +kernel))
set_option maxRecDepth 20000 in
theorem gX0_meeting_X0_checkDay : GoodIn wsX0_meeting (va_wsS RX0 75 yX0_checkDay wsX0_checkDay) := goodIn_app (goodIn_of _ (by decide +kernel)) ggX0_meeting_X0_checkDay
set_option maxRecDepth 20000 in
theorem ggX0_meeting_X0_checkMeetingSet : GoodIn wsX0_meeting wsX0_checkMeetingSet := goodIn_ca (goodIn_ca (goodIn_r _ [18, 19, 20, 21, 22, 23, 24, 25, 7, 8, 3, 9, 10, 11, 12, 13, 14, 26, 27, 28, 29, 30, 31, 32, 79, 80, 81, 82, 83, 84, 85, 86, 87, 88] (by decide +kernel) (by decide +kernel)) (goodIn_sub (fun _ h => List.mem_cons_of_mem _ (List.mem_append_left _ (List.mem_append_left _ (List.mem_append_right _ h)))) (by decide +kernel))) (goodIn_sub (fun _ h => List.mem_cons_of_mem _ (List.mem_append_left _ (List.mem_append_right _ h))) (by decide +kernel))
set_option maxRecDepth 20000 in
theorem gX0_meeting_X0_checkMeetingSet : GoodIn wsX0_meeting (wsV RX0 89 RX0 yX0_checkMeetingSet wsX0_checkMeetingSet) := goodIn_app (goodIn_of _ (by decide +kernel)) ggX0_meeting_X0_checkMeetingSet
set_option maxRecDepth 20000 in
theorem ggX0_meeting_X0_firstMeeting : GoodIn wsX0_meeting wsX0_firstMeeting := goodIn_r _ [36, 32, 37, 38, 39, 40, 3, 41, 42, 43, 44, 45, 46, 47, 48, 49, 50, 51, 52, 53, 54, 55, 56, 57, 58, 59, 60, 61, 62, 63, 64, 65, 66, 67, 68, 69, 79, 80, 81, 82, 83, 84, 85, 86, 87, 88] (by decide +kernel) (by decide +kernel)
set_option maxRecDepth 20000 in
theorem gX0_meeting_X0_firstMeeting : GoodIn wsX0_meeting (wsV RX0 92 RX0 yX0_firstMeeting wsX0_firstMeeting) := goodIn_app (goodIn_of _ (by decide +kernel)) ggX0_meeting_X0_firstMeeting
set_option maxRecDepth 20000 in
theorem ggX0_meeting_X0_checkTheyMeet : GoodIn wsX0_meeting wsX0_checkTheyMeet := goodIn_ca (goodIn_r _ [72, 73, 74, 37] (by decide +kernel) (by decide +kernel)) (goodIn_sub (fun _ h => List.mem_cons_of_mem _ (List.mem_append_right _ h)) (by decide +kernel))
set_option maxRecDepth 20000 in
theorem gX0_meeting_X0_checkTheyMeet : GoodIn wsX0_meeting (va_wsS RX0 98 yX0_checkTheyMeet wsX0_checkTheyMeet) := goodIn_app (goodIn_of _ (by decide +kernel)) ggX0_meeting_X0_checkTheyMeet
set_option maxRecDepth 20000 in
theorem ggX0_meeting_X0_commonLength : GoodIn wsX0_meeting wsX0_commonLength := goodIn_r _ [78, 32, 42, 43, 44, 3, 45, 46, 47, 48, 49, 50, 51, 67, 68, 69, 56, 57, 58, 59, 60, 61, 62, 79, 80, 81, 82, 83, 84, 85, 86, 87, 88] (by decide +kernel) (by decide +kernel)
set_option maxRecDepth 20000 in
theorem gX0_meeting_X0_commonLength : GoodIn wsX0_meeting (wsV RX0 102 RX0 yX0_commonLength wsX0_commonLength) := goodIn_app (goodIn_of _ (by decide +kernel)) ggX0_meeting_X0_commonLength
set_option maxRecDepth 20000 in
theorem ggX0_meeting_X0_modulo : GoodIn wsX0_meeting wsX0_modulo := goodIn_r _ [58, 59, 60, 61, 62] (by decide +kernel) (by decide +kernel)
set_option maxRecDepth 20000 in
theorem gX0_meeting_X0_modulo : GoodIn wsX0_meeting (va_wsS RX0 71 yX0_modulo wsX0_modulo) := goodIn_app (goodIn_of _ (by decide +kernel)) ggX0_meeting_X0_modulo
theorem dX0_meeting_0 : decode cX0_meeting 0 = .ok (.iload_n 2, 1) := by decide +kernel
theorem dX0_meeting_1 : decode cX0_meeting 1 = .ok (.invokestatic 75, 3) := by decide +kernel
theorem dX0_meeting_4 : decode cX0_meeting 4 = .ok (.aload_n 0, 1) := by decide +kernel
theorem dX0_meeting_5 : decode cX0_meeting 5 = .ok (.iload_n 1, 1) := by decide +kernel
theorem dX0_meeting_6 : decode cX0_meeting 6 = .ok (.invokevirtual 89, 3) := by decide +kernel
theorem dX0_meeting_9 : decode cX0_meeting 9 = .ok (.aload_n 0, 1) := by decide +kernel
theorem dX0_meeting_10 : decode cX0_meeting 10 = .ok (.iload_n 1, 1) := by decide +kernel
theorem dX0_meeting_11 : decode cX0_meeting 11 = .ok (.invokevirtual 92, 3) := by decide +kernel
theorem dX0_meeting_14 : decode cX0_meeting 14 = .ok (.lstore_n 3, 1) := by decide +kernel
theorem dX0_meeting_15 : decode cX0_meeting 15 = .ok (.lload_n 3, 1) := by decide +kernel
theorem dX0_meeting_16 : decode cX0_meeting 16 = .ok (.invokestatic 98, 3) := by decide +kernel
theorem dX0_meeting_19 : decode cX0_meeting 19 = .ok (.iload_n 2, 1) := by decide +kernel
theorem dX0_meeting_20 : decode cX0_meeting 20 = .ok (.i2l, 1) := by decide +kernel
theorem dX0_meeting_21 : decode cX0_meeting 21 = .ok (.lload_n 3, 1) := by decide +kernel
theorem dX0_meeting_22 : decode cX0_meeting 22 = .ok (.iload_n 2, 1) := by decide +kernel
theorem dX0_meeting_23 : decode cX0_meeting 23 = .ok (.i2l, 1) := by decide +kernel
theorem dX0_meeting_24 : decode cX0_meeting 24 = .ok (.lsub, 1) := by decide +kernel
theorem dX0_meeting_25 : decode cX0_meeting 25 = .ok (.aload_n 0, 1) := by decide +kernel
theorem dX0_meeting_26 : decode cX0_meeting 26 = .ok (.iload_n 1, 1) := by decide +kernel
theorem dX0_meeting_27 : decode cX0_meeting 27 = .ok (.invokevirtual 102, 3) := by decide +kernel
theorem dX0_meeting_30 : decode cX0_meeting 30 = .ok (.invokestatic 71, 3) := by decide +kernel
theorem dX0_meeting_33 : decode cX0_meeting 33 = .ok (.ladd, 1) := by decide +kernel
theorem dX0_meeting_34 : decode cX0_meeting 34 = .ok (.l2i, 1) := by decide +kernel
theorem dX0_meeting_35 : decode cX0_meeting 35 = .ok (.ireturn, 1) := by decide +kernel
set_option maxRecDepth 20000 in
theorem ggX0_lunarMeeting_X0_checkDay : GoodIn wsX0_lunarMeeting wsX0_checkDay := goodIn_ca (goodIn_r _ [5, 6, 7, 8, 9, 4, 10, 11, 12, 13, 14, 15] (by decide +kernel) (by decide +kernel)) (goodIn_sub (fun _ h => List.mem_cons_of_mem _ (List.mem_append_left _ (List.mem_append_left _ (List.mem_append_right _ h)))) (by decide +kernel))
set_option maxRecDepth 20000 in
theorem gX0_lunarMeeting_X0_checkDay : GoodIn wsX0_lunarMeeting (va_wsS RX0 75 yX0_checkDay wsX0_checkDay) := goodIn_app (goodIn_of _ (by decide +kernel)) ggX0_lunarMeeting_X0_checkDay
set_option maxRecDepth 20000 in
theorem ggX0_lunarMeeting_X0_isWithin : GoodIn wsX0_lunarMeeting wsX0_isWithin := goodIn_r _ [10] (by decide +kernel) (by decide +kernel)
set_option maxRecDepth 20000 in
theorem gX0_lunarMeeting_X0_isWithin : GoodIn wsX0_lunarMeeting (va_wsS RX0 41 yX0_isWithin wsX0_isWithin) := goodIn_app (goodIn_of _ (by decide +kernel)) ggX0_lunarMeeting_X0_isWithin
set_option maxRecDepth 20000 in
theorem ggX0_lunarMeeting_X0_checkArgument : GoodIn wsX0_lunarMeeting wsX0_checkArgument := goodIn_ca (goodIn_r _ [13, 14, 15] (by decide +kernel) (by decide +kernel)) (goodIn_sub (fun _ h => List.mem_cons_of_mem _ (List.mem_append_left _ (List.mem_append_left _ (List.mem_append_right _ h)))) (by decide +kernel))
set_option maxRecDepth 20000 in
theorem gX0_lunarMeeting_X0_checkArgument : GoodIn wsX0_lunarMeeting (va_wsS RX0 45 yX0_checkArgument wsX0_checkArgument) := goodIn_app (goodIn_of _ (by decide +kernel)) ggX0_lunarMeeting_X0_checkArgument
set_option maxRecDepth 20000 in
theorem ggX0_lunarMeeting_X0_checkMeetingSet : GoodIn wsX0_lunarMeeting wsX0_checkMeetingSet := goodIn_ca (goodIn_ca (goodIn_r _ [19, 20, 21, 22, 23, 24, 25, 26, 8, 9, 4, 10, 11, 12, 13, 14, 15, 27, 28, 29, 30, 31, 32, 33, 96, 97, 98, 99, 100, 101, 102, 103, 104, 105] (by decide +kernel) (by decide +kernel)) (goodIn_sub (fun _ h => List.mem_cons_of_mem _ (List.mem_append_left _ (List.mem_append_left _ (List.mem_append_right _ h)))) (by decide +kernel))) (goodIn_sub (fun _ h => List.mem_cons_of_mem _ (List.mem_append_left _ (List.mem_append_right _ h))) (by decide +kernel))
set_option maxRecDepth 20000 in
theorem gX0_lunarMeeting_X0_checkMeetingSet : GoodIn wsX0_lunarMeeting (wsV RX0 89 RX0 yX0_checkMeetingSet wsX0_checkMeetingSet) := goodIn_app (goodIn_of _ (by decide +kernel)) ggX0_lunarMeeting_X0_checkMeetingSet
set_option maxRecDepth 20000 in
theorem ggX0_lunarMeeting_X0_firstMeeting : GoodIn wsX0_lunarMeeting wsX0_firstMeeting := goodIn_r _ [37, 33, 1, 38, 39, 40, 4, 41, 42, 43, 44, 45, 46, 47, 48, 49, 50, 51, 52, 53, 54, 55, 56, 57, 58, 59, 60, 61, 62, 63, 64, 65, 66, 67, 68, 69, 96, 97, 98, 99, 100, 101, 102, 103, 104, 105] (by decide +kernel) (by decide +kernel)
set_option maxRecDepth 20000 in
theorem gX0_lunarMeeting_X0_firstMeeting : GoodIn wsX0_lunarMeeting (wsV RX0 92 RX0 yX0_firstMeeting wsX0_firstMeeting) := goodIn_app (goodIn_of _ (by decide +kernel)) ggX0_lunarMeeting_X0_firstMeeting
set_option maxRecDepth 20000 in
theorem ggX0_lunarMeeting_X0_checkTheyMeet : GoodIn wsX0_lunarMeeting wsX0_checkTheyMeet := goodIn_ca (goodIn_r _ [72, 73, 74, 1] (by decide +kernel) (by decide +kernel)) (goodIn_sub (fun _ h => List.mem_cons_of_mem _ (List.mem_append_right _ h)) (by decide +kernel))
set_option maxRecDepth 20000 in
theorem gX0_lunarMeeting_X0_checkTheyMeet : GoodIn wsX0_lunarMeeting (va_wsS RX0 98 yX0_checkTheyMeet wsX0_checkTheyMeet) := goodIn_app (goodIn_of _ (by decide +kernel)) ggX0_lunarMeeting_X0_checkTheyMeet
set_option maxRecDepth 20000 in
theorem ggX0_lunarMeeting_X0_commonLength : GoodIn wsX0_lunarMeeting wsX0_commonLength := goodIn_r _ [78, 33, 42, 43, 44, 4, 45, 46, 47, 48, 49, 50, 51, 67, 68, 69, 56, 57, 58, 59, 60, 61, 62, 96, 97, 98, 99, 100, 101, 102, 103, 104, 105] (by decide +kernel) (by decide +kernel)
set_option maxRecDepth 20000 in
theorem gX0_lunarMeeting_X0_commonLength : GoodIn wsX0_lunarMeeting (wsV RX0 102 RX0 yX0_commonLength wsX0_commonLength) := goodIn_app (goodIn_of _ (by decide +kernel)) ggX0_lunarMeeting_X0_commonLength
set_option maxRecDepth 20000 in
theorem ggX0_lunarMeeting_X0_modulo : GoodIn wsX0_lunarMeeting wsX0_modulo := goodIn_r _ [58, 59, 60, 61, 62] (by decide +kernel) (by decide +kernel)
set_option maxRecDepth 20000 in
theorem gX0_lunarMeeting_X0_modulo : GoodIn wsX0_lunarMeeting (va_wsS RX0 71 yX0_modulo wsX0_modulo) := goodIn_app (goodIn_of _ (by decide +kernel)) ggX0_lunarMeeting_X0_modulo
set_option maxRecDepth 20000 in
theorem ggX0_lunarMeeting_X0_lunarDayOf : GoodIn wsX0_lunarMeeting wsX0_lunarDayOf := goodIn_r _ [82, 83, 84, 85, 86, 87, 4, 88, 89, 56, 57, 58, 59, 60, 61, 62, 90, 91, 92, 93, 94, 95, 96, 97, 98, 99, 100, 101, 102, 103, 104, 105] (by decide +kernel) (by decide +kernel)
set_option maxRecDepth 20000 in
theorem gX0_lunarMeeting_X0_lunarDayOf : GoodIn wsX0_lunarMeeting (wsV RX0 105 RX0 yX0_lunarDayOf wsX0_lunarDayOf) := goodIn_app (goodIn_of _ (by decide +kernel)) ggX0_lunarMeeting_X0_lunarDayOf
theorem dX0_lunarMeeting_0 : decode cX0_lunarMeeting 0 = .ok (.iload_n 2, 1) := by decide +kernel
theorem dX0_lunarMeeting_1 : decode cX0_lunarMeeting 1 = .ok (.invokestatic 75, 3) := by decide +kernel
theorem dX0_lunarMeeting_4 : decode cX0_lunarMeeting 4 = .ok (.iload_n 3, 1) := by decide +kernel
theorem dX0_lunarMeeting_5 : decode cX0_lunarMeeting 5 = .ok (.iconst 0, 1) := by decide +kernel
theorem dX0_lunarMeeting_6 : decode cX0_lunarMeeting 6 = .ok (.bipush 99, 2) := by decide +kernel
theorem dX0_lunarMeeting_8 : decode cX0_lunarMeeting 8 = .ok (.invokestatic 41, 3) := by decide +kernel
theorem dX0_lunarMeeting_11 : decode cX0_lunarMeeting 11 = .ok (.ifCond .eq 19, 3) := by decide +kernel
theorem dX0_lunarMeeting_14 : decode cX0_lunarMeeting 14 = .ok (.iload 4, 2) := by decide +kernel
theorem dX0_lunarMeeting_16 : decode cX0_lunarMeeting 16 = .ok (.iconst 1, 1) := by decide +kernel
theorem dX0_lunarMeeting_17 : decode cX0_lunarMeeting 17 = .ok (.sipush 1000, 3) := by decide +kernel
theorem dX0_lunarMeeting_20 : decode cX0_lunarMeeting 20 = .ok (.invokestatic 41, 3) := by decide +kernel
theorem dX0_lunarMeeting_23 : decode cX0_lunarMeeting 23 = .ok (.ifCond .eq 7, 3) := by decide +kernel
theorem dX0_lunarMeeting_26 : decode cX0_lunarMeeting 26 = .ok (.iconst 1, 1) := by decide +kernel
theorem dX0_lunarMeeting_27 : decode cX0_lunarMeeting 27 = .ok (.goto 4, 3) := by decide +kernel
theorem dX0_lunarMeeting_30 : decode cX0_lunarMeeting 30 = .ok (.iconst 0, 1) := by decide +kernel
theorem dX0_lunarMeeting_31 : decode cX0_lunarMeeting 31 = .ok (.invokestatic 45, 3) := by decide +kernel
theorem dX0_lunarMeeting_34 : decode cX0_lunarMeeting 34 = .ok (.aload_n 0, 1) := by decide +kernel
theorem dX0_lunarMeeting_35 : decode cX0_lunarMeeting 35 = .ok (.iload_n 1, 1) := by decide +kernel
theorem dX0_lunarMeeting_36 : decode cX0_lunarMeeting 36 = .ok (.invokevirtual 89, 3) := by decide +kernel
theorem dX0_lunarMeeting_39 : decode cX0_lunarMeeting 39 = .ok (.aload_n 0, 1) := by decide +kernel
theorem dX0_lunarMeeting_40 : decode cX0_lunarMeeting 40 = .ok (.iload_n 1, 1) := by decide +kernel
theorem dX0_lunarMeeting_41 : decode cX0_lunarMeeting 41 = .ok (.invokevirtual 92, 3) := by decide +kernel
theorem dX0_lunarMeeting_44 : decode cX0_lunarMeeting 44 = .ok (.lstore 5, 2) := by decide +kernel
theorem dX0_lunarMeeting_46 : decode cX0_lunarMeeting 46 = .ok (.lload 5, 2) := by decide +kernel
theorem dX0_lunarMeeting_48 : decode cX0_lunarMeeting 48 = .ok (.invokestatic 98, 3) := by decide +kernel
theorem dX0_lunarMeeting_51 : decode cX0_lunarMeeting 51 = .ok (.aload_n 0, 1) := by decide +kernel
theorem dX0_lunarMeeting_52 : decode cX0_lunarMeeting 52 = .ok (.iload_n 1, 1) := by decide +kernel
theorem dX0_lunarMeeting_53 : decode cX0_lunarMeeting 53 = .ok (.invokevirtual 102, 3) := by decide +kernel
theorem dX0_lunarMeeting_56 : decode cX0_lunarMeeting 56 = .ok (.lstore 7, 2) := by decide +kernel
theorem dX0_lunarMeeting_58 : decode cX0_lunarMeeting 58 = .ok (.lload 5, 2) := by decide +kernel
theorem dX0_lunarMeeting_60 : decode cX0_lunarMeeting 60 = .ok (.iload_n 2, 1) := by decide +kernel
theorem dX0_lunarMeeting_61 : decode cX0_lunarMeeting 61 = .ok (.i2l, 1) := by decide +kernel
theorem dX0_lunarMeeting_62 : decode cX0_lunarMeeting 62 = .ok (.lsub, 1) := by decide +kernel
theorem dX0_lunarMeeting_63 : decode cX0_lunarMeeting 63 = .ok (.lload 7, 2) := by decide +kernel
theorem dX0_lunarMeeting_65 : decode cX0_lunarMeeting 65 = .ok (.invokestatic 71, 3) := by decide +kernel
theorem dX0_lunarMeeting_68 : decode cX0_lunarMeeting 68 = .ok (.lstore 9, 2) := by decide +kernel
theorem dX0_lunarMeeting_70 : decode cX0_lunarMeeting 70 = .ok (.iconst 0, 1) := by decide +kernel
theorem dX0_lunarMeeting_71 : decode cX0_lunarMeeting 71 = .ok (.istore 11, 2) := by decide +kernel
theorem dX0_lunarMeeting_73 : decode cX0_lunarMeeting 73 = .ok (.iload 11, 2) := by decide +kernel
theorem dX0_lunarMeeting_75 : decode cX0_lunarMeeting 75 = .ok (.iload 4, 2) := by decide +kernel
theorem dX0_lunarMeeting_77 : decode cX0_lunarMeeting 77 = .ok (.if_icmp .ge 34, 3) := by decide +kernel
theorem dX0_lunarMeeting_80 : decode cX0_lunarMeeting 80 = .ok (.aload_n 0, 1) := by decide +kernel
theorem dX0_lunarMeeting_81 : decode cX0_lunarMeeting 81 = .ok (.iload_n 2, 1) := by decide +kernel
theorem dX0_lunarMeeting_82 : decode cX0_lunarMeeting 82 = .ok (.i2l, 1) := by decide +kernel
theorem dX0_lunarMeeting_83 : decode cX0_lunarMeeting 83 = .ok (.lload 9, 2) := by decide +kernel
theorem dX0_lunarMeeting_85 : decode cX0_lunarMeeting 85 = .ok (.ladd, 1) := by decide +kernel
theorem dX0_lunarMeeting_86 : decode cX0_lunarMeeting 86 = .ok (.invokevirtual 105, 3) := by decide +kernel
theorem dX0_lunarMeeting_89 : decode cX0_lunarMeeting 89 = .ok (.iload_n 3, 1) := by decide +kernel
theorem dX0_lunarMeeting_90 : decode cX0_lunarMeeting 90 = .ok (.i2l, 1) := by decide +kernel
theorem dX0_lunarMeeting_91 : decode cX0_lunarMeeting 91 = .ok (.lcmp, 1) := by decide +kernel
theorem dX0_lunarMeeting_92 : decode cX0_lunarMeeting 92 = .ok (.ifCond .ne 6, 3) := by decide +kernel
theorem dX0_lunarMeeting_95 : decode cX0_lunarMeeting 95 = .ok (.lload 9, 2) := by decide +kernel
theorem dX0_lunarMeeting_97 : decode cX0_lunarMeeting 97 = .ok (.lreturn, 1) := by decide +kernel
theorem dX0_lunarMeeting_98 : decode cX0_lunarMeeting 98 = .ok (.lload 9, 2) := by decide +kernel
theorem dX0_lunarMeeting_100 : decode cX0_lunarMeeting 100 = .ok (.lload 7, 2) := by decide +kernel
theorem dX0_lunarMeeting_102 : decode cX0_lunarMeeting 102 = .ok (.ladd, 1) := by decide +kernel
theorem dX0_lunarMeeting_103 : decode cX0_lunarMeeting 103 = .ok (.lstore 9, 2) := by decide +kernel
theorem dX0_lunarMeeting_105 : decode cX0_lunarMeeting 105 = .ok (.iinc 11 1, 3) := by decide +kernel
theorem dX0_lunarMeeting_108 : decode cX0_lunarMeeting 108 = .ok (.goto (-35), 3) := by decide +kernel
theorem dX0_lunarMeeting_111 : decode cX0_lunarMeeting 111 = .ok (.ldc2_w 96, 3) := by decide +kernel
theorem dX0_lunarMeeting_114 : decode cX0_lunarMeeting 114 = .ok (.lreturn, 1) := by decide +kernel
set_option maxRecDepth 20000 in
theorem ggX0_month_X0_checkDay : GoodIn wsX0_month wsX0_checkDay := goodIn_ca (goodIn_r _ [5, 6, 7, 8, 9, 4, 10, 11, 12, 13, 14, 15] (by decide +kernel) (by decide +kernel)) (goodIn_sub (fun _ h => List.mem_cons_of_mem _ (List.mem_append_right _ h)) (by decide +kernel))
set_option maxRecDepth 20000 in
theorem gX0_month_X0_checkDay : GoodIn wsX0_month (va_wsS RX0 75 yX0_checkDay wsX0_checkDay) := goodIn_app (goodIn_of _ (by decide +kernel)) ggX0_month_X0_checkDay
set_option maxRecDepth 20000 in
theorem ggX0_month_X0_moonParts : GoodIn wsX0_month wsX0_moonParts := goodIn_r _ [19, 20, 21, 29, 30, 31, 32, 33, 34, 35, 36, 37, 38] (by decide +kernel) (by decide +kernel)
set_option maxRecDepth 20000 in
theorem gX0_month_X0_moonParts : GoodIn wsX0_month (wsV RX0 117 RX0 yX0_moonParts wsX0_moonParts) := goodIn_app (goodIn_of _ (by decide +kernel)) ggX0_month_X0_moonParts
set_option maxRecDepth 20000 in
theorem ggX0_month_X0_divide : GoodIn wsX0_month wsX0_divide := goodIn_r _ [24, 25, 26, 27, 28] (by decide +kernel) (by decide +kernel)
set_option maxRecDepth 20000 in
theorem gX0_month_X0_divide : GoodIn wsX0_month (va_wsS RX0 120 yX0_divide wsX0_divide) := goodIn_app (goodIn_of _ (by decide +kernel)) ggX0_month_X0_divide
theorem dX0_month_0 : decode cX0_month 0 = .ok (.iload_n 1, 1) := by decide +kernel
theorem dX0_month_1 : decode cX0_month 1 = .ok (.invokestatic 75, 3) := by decide +kernel
theorem dX0_month_4 : decode cX0_month 4 = .ok (.aload_n 0, 1) := by decide +kernel
theorem dX0_month_5 : decode cX0_month 5 = .ok (.iload_n 1, 1) := by decide +kernel
theorem dX0_month_6 : decode cX0_month 6 = .ok (.i2l, 1) := by decide +kernel
theorem dX0_month_7 : decode cX0_month 7 = .ok (.invokevirtual 117, 3) := by decide +kernel
theorem dX0_month_10 : decode cX0_month 10 = .ok (.aload_n 0, 1) := by decide +kernel
theorem dX0_month_11 : decode cX0_month 11 = .ok (.getfield 20, 3) := by decide +kernel
theorem dX0_month_14 : decode cX0_month 14 = .ok (.i2l, 1) := by decide +kernel
theorem dX0_month_15 : decode cX0_month 15 = .ok (.invokestatic 120, 3) := by decide +kernel
theorem dX0_month_18 : decode cX0_month 18 = .ok (.l2i, 1) := by decide +kernel
theorem dX0_month_19 : decode cX0_month 19 = .ok (.ireturn, 1) := by decide +kernel
set_option maxRecDepth 20000 in
theorem ggX0_lunarDay_X0_checkDay : GoodIn wsX0_lunarDay wsX0_checkDay := goodIn_ca (goodIn_r _ [4, 5, 6, 7, 8, 3, 9, 10, 11, 12, 13, 14] (by decide +kernel) (by decide +kernel)) (goodIn_sub (fun _ h => List.mem_cons_of_mem _ (List.mem_append_right _ h)) (by decide +kernel))
set_option maxRecDepth 20000 in
theorem gX0_lunarDay_X0_checkDay : GoodIn wsX0_lunarDay (va_wsS RX0 75 yX0_checkDay wsX0_checkDay) := goodIn_app (goodIn_of _ (by decide +kernel)) ggX0_lunarDay_X0_checkDay
set_option maxRecDepth 20000 in
theorem ggX0_lunarDay_X0_lunarDayOf : GoodIn wsX0_lunarDay wsX0_lunarDayOf := goodIn_r _ [18, 19, 20, 21, 22, 23, 3, 24, 25, 26, 27, 28, 29, 30, 31, 32, 33, 34, 35, 36, 37, 38, 39, 40, 41, 42, 43, 44, 45, 46, 47, 48] (by decide +kernel) (by decide +kernel)
set_option maxRecDepth 20000 in
theorem gX0_lunarDay_X0_lunarDayOf : GoodIn wsX0_lunarDay (wsV RX0 105 RX0 yX0_lunarDayOf wsX0_lunarDayOf) := goodIn_app (goodIn_of _ (by decide +kernel)) ggX0_lunarDay_X0_lunarDayOf
theorem dX0_lunarDay_0 : decode cX0_lunarDay 0 = .ok (.iload_n 1, 1) := by decide +kernel
theorem dX0_lunarDay_1 : decode cX0_lunarDay 1 = .ok (.invokestatic 75, 3) := by decide +kernel
theorem dX0_lunarDay_4 : decode cX0_lunarDay 4 = .ok (.aload_n 0, 1) := by decide +kernel
theorem dX0_lunarDay_5 : decode cX0_lunarDay 5 = .ok (.iload_n 1, 1) := by decide +kernel
theorem dX0_lunarDay_6 : decode cX0_lunarDay 6 = .ok (.i2l, 1) := by decide +kernel
theorem dX0_lunarDay_7 : decode cX0_lunarDay 7 = .ok (.invokevirtual 105, 3) := by decide +kernel
theorem dX0_lunarDay_10 : decode cX0_lunarDay 10 = .ok (.l2i, 1) := by decide +kernel
theorem dX0_lunarDay_11 : decode cX0_lunarDay 11 = .ok (.ireturn, 1) := by decide +kernel
set_option maxRecDepth 20000 in
theorem ggX0_monthBegin_X0_isWithin : GoodIn wsX0_monthBegin wsX0_isWithin := goodIn_r _ [9] (by decide +kernel) (by decide +kernel)
set_option maxRecDepth 20000 in
theorem gX0_monthBegin_X0_isWithin : GoodIn wsX0_monthBegin (va_wsS RX0 41 yX0_isWithin wsX0_isWithin) := goodIn_app (goodIn_of _ (by decide +kernel)) ggX0_monthBegin_X0_isWithin
set_option maxRecDepth 20000 in
theorem ggX0_monthBegin_X0_checkArgument : GoodIn wsX0_monthBegin wsX0_checkArgument := goodIn_ca (goodIn_r _ [12, 13, 14] (by decide +kernel) (by decide +kernel)) (goodIn_sub (fun _ h => List.mem_cons_of_mem _ (List.mem_append_right _ h)) (by decide +kernel))
set_option maxRecDepth 20000 in
theorem gX0_monthBegin_X0_checkArgument : GoodIn wsX0_monthBegin (va_wsS RX0 45 yX0_checkArgument wsX0_checkArgument) := goodIn_app (goodIn_of _ (by decide +kernel)) ggX0_monthBegin_X0_checkArgument
set_option maxRecDepth 20000 in
theorem ggX0_monthBegin_X0_divide : GoodIn wsX0_monthBegin wsX0_divide := goodIn_r _ [17, 18, 19, 20, 21] (by decide +kernel) (by decide +kernel)
set_option maxRecDepth 20000 in
theorem gX0_monthBegin_X0_divide : GoodIn wsX0_monthBegin (va_wsS RX0 120 yX0_divide wsX0_divide) := goodIn_app (goodIn_of _ (by decide +kernel)) ggX0_monthBegin_X0_divide
theorem dX0_monthBegin_0 : decode cX0_monthBegin 0 = .ok (.iload_n 1, 1) := by decide +kernel
theorem dX0_monthBegin_1 : decode cX0_monthBegin 1 = .ok (.ldc 123, 2) := by decide +kernel
theorem dX0_monthBegin_3 : decode cX0_monthBegin 3 = .ok (.ldc 124, 2) := by decide +kernel
theorem dX0_monthBegin_5 : decode cX0_monthBegin 5 = .ok (.invokestatic 41, 3) := by decide +kernel
theorem dX0_monthBegin_8 : decode cX0_monthBegin 8 = .ok (.invokestatic 45, 3) := by decide +kernel
theorem dX0_monthBegin_11 : decode cX0_monthBegin 11 = .ok (.iload_n 1, 1) := by decide +kernel
theorem dX0_monthBegin_12 : decode cX0_monthBegin 12 = .ok (.i2l, 1) := by decide +kernel
theorem dX0_monthBegin_13 : decode cX0_monthBegin 13 = .ok (.lneg, 1) := by decide +kernel
theorem dX0_monthBegin_14 : decode cX0_monthBegin 14 = .ok (.aload_n 0, 1) := by decide +kernel
theorem dX0_monthBegin_15 : decode cX0_monthBegin 15 = .ok (.getfield 20, 3) := by decide +kernel
theorem dX0_monthBegin_18 : decode cX0_monthBegin 18 = .ok (.i2l, 1) := by decide +kernel
theorem dX0_monthBegin_19 : decode cX0_monthBegin 19 = .ok (.lmul, 1) := by decide +kernel
theorem dX0_monthBegin_20 : decode cX0_monthBegin 20 = .ok (.aload_n 0, 1) := by decide +kernel
theorem dX0_monthBegin_21 : decode cX0_monthBegin 21 = .ok (.getfield 23, 3) := by decide +kernel
theorem dX0_monthBegin_24 : decode cX0_monthBegin 24 = .ok (.i2l, 1) := by decide +kernel
theorem dX0_monthBegin_25 : decode cX0_monthBegin 25 = .ok (.invokestatic 120, 3) := by decide +kernel
theorem dX0_monthBegin_28 : decode cX0_monthBegin 28 = .ok (.lneg, 1) := by decide +kernel
theorem dX0_monthBegin_29 : decode cX0_monthBegin 29 = .ok (.aload_n 0, 1) := by decide +kernel
theorem dX0_monthBegin_30 : decode cX0_monthBegin 30 = .ok (.getfield 26, 3) := by decide +kernel
theorem dX0_monthBegin_33 : decode cX0_monthBegin 33 = .ok (.i2l, 1) := by decide +kernel
theorem dX0_monthBegin_34 : decode cX0_monthBegin 34 = .ok (.lsub, 1) := by decide +kernel
theorem dX0_monthBegin_35 : decode cX0_monthBegin 35 = .ok (.l2i, 1) := by decide +kernel
theorem dX0_monthBegin_36 : decode cX0_monthBegin 36 = .ok (.ireturn, 1) := by decide +kernel
set_option maxRecDepth 20000 in
theorem ggX0_year_X0_checkDay : GoodIn wsX0_year wsX0_checkDay := goodIn_ca (goodIn_r _ [4, 5, 6, 7, 8, 3, 9, 10, 11, 12, 13, 14] (by decide +kernel) (by decide +kernel)) (goodIn_sub (fun _ h => List.mem_cons_of_mem _ (List.mem_append_right _ h)) (by decide +kernel))
set_option maxRecDepth 20000 in
theorem gX0_year_X0_checkDay : GoodIn wsX0_year (va_wsS RX0 75 yX0_checkDay wsX0_checkDay) := goodIn_app (goodIn_of _ (by decide +kernel)) ggX0_year_X0_checkDay
set_option maxRecDepth 20000 in
theorem ggX0_year_X0_yearOf : GoodIn wsX0_year wsX0_yearOf := goodIn_r _ [18, 19, 20, 21, 22, 23, 24, 3, 25, 26, 27, 28, 29, 30, 31, 32, 33, 34, 35, 36, 37, 38, 39] (by decide +kernel) (by decide +kernel)
set_option maxRecDepth 20000 in
theorem gX0_year_X0_yearOf : GoodIn wsX0_year (wsV RX0 125 RX0 yX0_yearOf wsX0_yearOf) := goodIn_app (goodIn_of _ (by decide +kernel)) ggX0_year_X0_yearOf
theorem dX0_year_0 : decode cX0_year 0 = .ok (.iload_n 1, 1) := by decide +kernel
theorem dX0_year_1 : decode cX0_year 1 = .ok (.invokestatic 75, 3) := by decide +kernel
theorem dX0_year_4 : decode cX0_year 4 = .ok (.aload_n 0, 1) := by decide +kernel
theorem dX0_year_5 : decode cX0_year 5 = .ok (.iload_n 1, 1) := by decide +kernel
theorem dX0_year_6 : decode cX0_year 6 = .ok (.invokevirtual 125, 3) := by decide +kernel
theorem dX0_year_9 : decode cX0_year 9 = .ok (.ireturn, 1) := by decide +kernel
set_option maxRecDepth 20000 in
theorem ggX0_placeInYear_X0_checkDay : GoodIn wsX0_placeInYear wsX0_checkDay := goodIn_ca (goodIn_r _ [4, 5, 6, 7, 8, 3, 9, 10, 11, 12, 13, 14] (by decide +kernel) (by decide +kernel)) (goodIn_sub (fun _ h => List.mem_cons_of_mem _ (List.mem_append_right _ h)) (by decide +kernel))
set_option maxRecDepth 20000 in
theorem gX0_placeInYear_X0_checkDay : GoodIn wsX0_placeInYear (va_wsS RX0 75 yX0_checkDay wsX0_checkDay) := goodIn_app (goodIn_of _ (by decide +kernel)) ggX0_placeInYear_X0_checkDay
set_option maxRecDepth 20000 in
theorem ggX0_placeInYear_X0_yearOf : GoodIn wsX0_placeInYear wsX0_yearOf := goodIn_r _ [18, 19, 20, 21, 22, 23, 24, 3, 25, 26, 27, 28, 29, 34, 35, 36, 37, 38, 39, 40, 41, 42, 43] (by decide +kernel) (by decide +kernel)
set_option maxRecDepth 20000 in
theorem gX0_placeInYear_X0_yearOf : GoodIn wsX0_placeInYear (wsV RX0 125 RX0 yX0_yearOf wsX0_yearOf) := goodIn_app (goodIn_of _ (by decide +kernel)) ggX0_placeInYear_X0_yearOf
set_option maxRecDepth 20000 in
theorem ggX0_placeInYear_X0_yearBegin : GoodIn wsX0_placeInYear wsX0_yearBegin := goodIn_r _ [33, 21, 22, 20, 19, 23, 24, 3, 25, 26, 27, 28, 29, 34, 35, 36, 37, 38, 39, 40, 41, 42, 43] (by decide +kernel) (by decide +kernel)
set_option maxRecDepth 20000 in
theorem gX0_placeInYear_X0_yearBegin : GoodIn wsX0_placeInYear (wsV RX0 128 RX0 yX0_yearBegin wsX0_yearBegin) := goodIn_app (goodIn_of _ (by decide +kernel)) ggX0_placeInYear_X0_yearBegin
theorem dX0_placeInYear_0 : decode cX0_placeInYear 0 = .ok (.iload_n 1, 1) := by decide +kernel
theorem dX0_placeInYear_1 : decode cX0_placeInYear 1 = .ok (.invokestatic 75, 3) := by decide +kernel
theorem dX0_placeInYear_4 : decode cX0_placeInYear 4 = .ok (.iload_n 1, 1) := by decide +kernel
theorem dX0_placeInYear_5 : decode cX0_placeInYear 5 = .ok (.aload_n 0, 1) := by decide +kernel
theorem dX0_placeInYear_6 : decode cX0_placeInYear 6 = .ok (.aload_n 0, 1) := by decide +kernel
theorem dX0_placeInYear_7 : decode cX0_placeInYear 7 = .ok (.iload_n 1, 1) := by decide +kernel
theorem dX0_placeInYear_8 : decode cX0_placeInYear 8 = .ok (.invokevirtual 125, 3) := by decide +kernel
theorem dX0_placeInYear_11 : decode cX0_placeInYear 11 = .ok (.invokevirtual 128, 3) := by decide +kernel
theorem dX0_placeInYear_14 : decode cX0_placeInYear 14 = .ok (.isub, 1) := by decide +kernel
theorem dX0_placeInYear_15 : decode cX0_placeInYear 15 = .ok (.ireturn, 1) := by decide +kernel
set_option maxRecDepth 20000 in
theorem ggX0_isLeap_X0_checkYear : GoodIn wsX0_isLeap wsX0_checkYear := goodIn_ca (goodIn_r _ [4, 5, 6, 3, 7, 8, 9, 10, 11, 12] (by decide +kernel) (by decide +kernel)) (goodIn_sub (fun _ h => List.mem_cons_of_mem _ (List.mem_append_right _ h)) (by decide +kernel))
set_option maxRecDepth 20000 in
theorem gX0_isLeap_X0_checkYear : GoodIn wsX0_isLeap (va_wsS RX0 131 yX0_checkYear wsX0_checkYear) := goodIn_app (goodIn_of _ (by decide +kernel)) ggX0_isLeap_X0_checkYear
set_option maxRecDepth 20000 in
theorem ggX0_isLeap_X0_hasLeapDay : GoodIn wsX0_isLeap wsX0_hasLeapDay := goodIn_r _ [16, 17, 18, 19, 20, 21, 3, 22, 23, 24, 25, 26, 27, 28, 29, 30, 31, 32, 33, 34, 35, 36] (by decide +kernel) (by decide +kernel)
set_option maxRecDepth 20000 in
theorem gX0_isLeap_X0_hasLeapDay : GoodIn wsX0_isLeap (wsV RX0 134 RX0 yX0_hasLeapDay wsX0_hasLeapDay) := goodIn_app (goodIn_of _ (by decide +kernel)) ggX0_isLeap_X0_hasLeapDay
theorem dX0_isLeap_0 : decode cX0_isLeap 0 = .ok (.iload_n 1, 1) := by decide +kernel
theorem dX0_isLeap_1 : decode cX0_isLeap 1 = .ok (.invokestatic 131, 3) := by decide +kernel
theorem dX0_isLeap_4 : decode cX0_isLeap 4 = .ok (.aload_n 0, 1) := by decide +kernel
theorem dX0_isLeap_5 : decode cX0_isLeap 5 = .ok (.iload_n 1, 1) := by decide +kernel
theorem dX0_isLeap_6 : decode cX0_isLeap 6 = .ok (.invokevirtual 134, 3) := by decide +kernel
theorem dX0_isLeap_9 : decode cX0_isLeap 9 = .ok (.ireturn, 1) := by decide +kernel
set_option maxRecDepth 20000 in
theorem ggX0_dayOf_X0_checkYear : GoodIn wsX0_dayOf wsX0_checkYear := goodIn_ca (goodIn_r _ [5, 6, 7, 4, 8, 9, 10, 11, 12, 13] (by decide +kernel) (by decide +kernel)) (goodIn_sub (fun _ h => List.mem_cons_of_mem _ (List.mem_append_right _ h)) (by decide +kernel))
set_option maxRecDepth 20000 in
theorem gX0_dayOf_X0_checkYear : GoodIn wsX0_dayOf (va_wsS RX0 131 yX0_checkYear wsX0_checkYear) := goodIn_app (goodIn_of _ (by decide +kernel)) ggX0_dayOf_X0_checkYear
set_option maxRecDepth 20000 in
theorem ggX0_dayOf_X0_hasLeapDay : GoodIn wsX0_dayOf wsX0_hasLeapDay := goodIn_r _ [17, 18, 19, 20, 21, 22, 4, 23, 24, 25, 26, 27, 38, 39, 40, 41, 42, 43, 44, 45, 46, 47] (by decide +kernel) (by decide +kernel)
set_option maxRecDepth 20000 in
theorem gX0_dayOf_X0_hasLeapDay : GoodIn wsX0_dayOf (wsV RX0 134 RX0 yX0_hasLeapDay wsX0_hasLeapDay) := goodIn_app (goodIn_of _ (by decide +kernel)) ggX0_dayOf_X0_hasLeapDay
set_option maxRecDepth 20000 in
theorem ggX0_dayOf_X0_isWithin : GoodIn wsX0_dayOf wsX0_isWithin := goodIn_r _ [8] (by decide +kernel) (by decide +kernel)
set_option maxRecDepth 20000 in
theorem gX0_dayOf_X0_isWithin : GoodIn wsX0_dayOf (va_wsS RX0 41 yX0_isWithin wsX0_isWithin) := goodIn_app (goodIn_of _ (by decide +kernel)) ggX0_dayOf_X0_isWithin
set_option maxRecDepth 20000 in
theorem ggX0_dayOf_X0_checkArgument : GoodIn wsX0_dayOf wsX0_checkArgument := goodIn_ca (goodIn_r _ [11, 12, 13] (by decide +kernel) (by decide +kernel)) (goodIn_sub (fun _ h => List.mem_cons_of_mem _ (List.mem_append_right _ h)) (by decide +kernel))
set_option maxRecDepth 20000 in
theorem gX0_dayOf_X0_checkArgument : GoodIn wsX0_dayOf (va_wsS RX0 45 yX0_checkArgument wsX0_checkArgument) := goodIn_app (goodIn_of _ (by decide +kernel)) ggX0_dayOf_X0_checkArgument
set_option maxRecDepth 20000 in
theorem ggX0_dayOf_X0_yearBegin : GoodIn wsX0_dayOf wsX0_yearBegin := goodIn_r _ [31, 1, 18, 19, 20, 32, 33, 4, 34, 35, 36, 26, 37, 38, 39, 40, 41, 42, 43, 44, 45, 46, 47] (by decide +kernel) (by decide +kernel)
set_option maxRecDepth 20000 in
theorem gX0_dayOf_X0_yearBegin : GoodIn wsX0_dayOf (wsV RX0 128 RX0 yX0_yearBegin wsX0_yearBegin) := goodIn_app (goodIn_of _ (by decide +kernel)) ggX0_dayOf_X0_yearBegin
theorem dX0_dayOf_0 : decode cX0_dayOf 0 = .ok (.iload_n 1, 1) := by decide +kernel
theorem dX0_dayOf_1 : decode cX0_dayOf 1 = .ok (.invokestatic 131, 3) := by decide +kernel
theorem dX0_dayOf_4 : decode cX0_dayOf 4 = .ok (.aload_n 0, 1) := by decide +kernel
theorem dX0_dayOf_5 : decode cX0_dayOf 5 = .ok (.iload_n 1, 1) := by decide +kernel
theorem dX0_dayOf_6 : decode cX0_dayOf 6 = .ok (.invokevirtual 134, 3) := by decide +kernel
theorem dX0_dayOf_9 : decode cX0_dayOf 9 = .ok (.ifCond .eq 12, 3) := by decide +kernel
theorem dX0_dayOf_12 : decode cX0_dayOf 12 = .ok (.aload_n 0, 1) := by decide +kernel
theorem dX0_dayOf_13 : decode cX0_dayOf 13 = .ok (.getfield 29, 3) := by decide +kernel
theorem dX0_dayOf_16 : decode cX0_dayOf 16 = .ok (.iconst 1, 1) := by decide +kernel
theorem dX0_dayOf_17 : decode cX0_dayOf 17 = .ok (.iadd, 1) := by decide +kernel
theorem dX0_dayOf_18 : decode cX0_dayOf 18 = .ok (.goto 7, 3) := by decide +kernel
theorem dX0_dayOf_21 : decode cX0_dayOf 21 = .ok (.aload_n 0, 1) := by decide +kernel
theorem dX0_dayOf_22 : decode cX0_dayOf 22 = .ok (.getfield 29, 3) := by decide +kernel
theorem dX0_dayOf_25 : decode cX0_dayOf 25 = .ok (.istore_n 3, 1) := by decide +kernel
theorem dX0_dayOf_26 : decode cX0_dayOf 26 = .ok (.iload_n 2, 1) := by decide +kernel
theorem dX0_dayOf_27 : decode cX0_dayOf 27 = .ok (.iconst 0, 1) := by decide +kernel
theorem dX0_dayOf_28 : decode cX0_dayOf 28 = .ok (.iload_n 3, 1) := by decide +kernel
theorem dX0_dayOf_29 : decode cX0_dayOf 29 = .ok (.iconst 1, 1) := by decide +kernel
theorem dX0_dayOf_30 : decode cX0_dayOf 30 = .ok (.isub, 1) := by decide +kernel
theorem dX0_dayOf_31 : decode cX0_dayOf 31 = .ok (.invokestatic 41, 3) := by decide +kernel
theorem dX0_dayOf_34 : decode cX0_dayOf 34 = .ok (.invokestatic 45, 3) := by decide +kernel
theorem dX0_dayOf_37 : decode cX0_dayOf 37 = .ok (.aload_n 0, 1) := by decide +kernel
theorem dX0_dayOf_38 : decode cX0_dayOf 38 = .ok (.iload_n 1, 1) := by decide +kernel
