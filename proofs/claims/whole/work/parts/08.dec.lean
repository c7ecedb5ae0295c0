theorem dX1_lunarOf_8 : decode cX1_lunarOf 8 = .ok (.getfield 20, 3) := by decide +kernel
theorem dX1_lunarOf_11 : decode cX1_lunarOf 11 = .ok (.i2l, 1) := by decide +kernel
theorem dX1_lunarOf_12 : decode cX1_lunarOf 12 = .ok (.lmul, 1) := by decide +kernel
theorem dX1_lunarOf_13 : decode cX1_lunarOf 13 = .ok (.aload_n 0, 1) := by decide +kernel
theorem dX1_lunarOf_14 : decode cX1_lunarOf 14 = .ok (.getfield 16, 3) := by decide +kernel
theorem dX1_lunarOf_17 : decode cX1_lunarOf 17 = .ok (.i2l, 1) := by decide +kernel
theorem dX1_lunarOf_18 : decode cX1_lunarOf 18 = .ok (.invokestatic 46, 3) := by decide +kernel
theorem dX1_lunarOf_21 : decode cX1_lunarOf 21 = .ok (.aload_n 0, 1) := by decide +kernel
theorem dX1_lunarOf_22 : decode cX1_lunarOf 22 = .ok (.getfield 20, 3) := by decide +kernel
theorem dX1_lunarOf_25 : decode cX1_lunarOf 25 = .ok (.i2l, 1) := by decide +kernel
theorem dX1_lunarOf_26 : decode cX1_lunarOf 26 = .ok (.ldiv, 1) := by decide +kernel
theorem dX1_lunarOf_27 : decode cX1_lunarOf 27 = .ok (.lreturn, 1) := by decide +kernel
set_option maxRecDepth 20000 in
theorem ggX1_lunarMeeting_X1_isDay : GoodIn wsX1_lunarMeeting wsX1_isDay := goodIn_r _ [9, 10, 11, 12, 13, 8, 14] (by decide +kernel) (by decide +kernel)
set_option maxRecDepth 20000 in
theorem gX1_lunarMeeting_X1_isDay : GoodIn wsX1_lunarMeeting (va_wsS RX1 79 yX1_isDay wsX1_isDay) := goodIn_app (goodIn_of _ (by decide +kernel)) ggX1_lunarMeeting_X1_isDay
set_option maxRecDepth 20000 in
theorem ggX1_lunarMeeting_X1_in : GoodIn wsX1_lunarMeeting wsX1_in := goodIn_r _ [14] (by decide +kernel) (by decide +kernel)
set_option maxRecDepth 20000 in
theorem gX1_lunarMeeting_X1_in : GoodIn wsX1_lunarMeeting (va_wsS RX1 39 yX1_in wsX1_in) := goodIn_app (goodIn_of _ (by decide +kernel)) ggX1_lunarMeeting_X1_in
set_option maxRecDepth 20000 in
theorem ggX1_lunarMeeting_X1_faultOf : GoodIn wsX1_lunarMeeting wsX1_faultOf := goodIn_r _ [18, 19, 20, 21, 22, 8, 23, 12, 13, 14, 49, 50, 51, 52, 53, 54, 55, 56, 57, 58, 59, 60, 61] (by decide +kernel) (by decide +kernel)
set_option maxRecDepth 20000 in
theorem gX1_lunarMeeting_X1_faultOf : GoodIn wsX1_lunarMeeting (wsV RX1 117 RX1 yX1_faultOf wsX1_faultOf) := goodIn_app (goodIn_of _ (by decide +kernel)) ggX1_lunarMeeting_X1_faultOf
set_option maxRecDepth 20000 in
theorem ggX1_lunarMeeting_X1_find : GoodIn wsX1_lunarMeeting wsX1_find := goodIn_r _ [27, 3, 4, 20, 28, 29, 30, 31, 8, 32, 33, 34, 35, 36, 49, 50, 51, 52, 53, 54, 55, 56, 57, 58, 59, 60, 61] (by decide +kernel) (by decide +kernel)
set_option maxRecDepth 20000 in
theorem gX1_lunarMeeting_X1_find : GoodIn wsX1_lunarMeeting (wsV RX1 120 RX1 yX1_find wsX1_find) := goodIn_app (goodIn_of _ (by decide +kernel)) ggX1_lunarMeeting_X1_find
set_option maxRecDepth 20000 in
theorem ggX1_lunarMeeting_X1_goesWell : GoodIn wsX1_lunarMeeting wsX1_goesWell := goodIn_r _ [40, 41, 49, 50, 51, 52, 53, 54, 55, 56, 57, 58, 59, 60, 61] (by decide +kernel) (by decide +kernel)
set_option maxRecDepth 20000 in
theorem gX1_lunarMeeting_X1_goesWell : GoodIn wsX1_lunarMeeting (wsV RX1 52 RX1 yX1_goesWell wsX1_goesWell) := goodIn_app (goodIn_of _ (by decide +kernel)) ggX1_lunarMeeting_X1_goesWell
set_option maxRecDepth 20000 in
theorem ggX1_lunarMeeting_X1_lunarOf : GoodIn wsX1_lunarMeeting wsX1_lunarOf := goodIn_r _ [45, 46, 47, 48, 34, 35, 8, 36, 49, 50, 51, 52, 53, 54, 55, 56, 57, 58, 59, 60, 61] (by decide +kernel) (by decide +kernel)
set_option maxRecDepth 20000 in
theorem gX1_lunarMeeting_X1_lunarOf : GoodIn wsX1_lunarMeeting (wsV RX1 126 RX1 yX1_lunarOf wsX1_lunarOf) := goodIn_app (goodIn_of _ (by decide +kernel)) ggX1_lunarMeeting_X1_lunarOf
theorem dX1_lunarMeeting_0 : decode cX1_lunarMeeting 0 = .ok (.iload_n 2, 1) := by decide +kernel
theorem dX1_lunarMeeting_1 : decode cX1_lunarMeeting 1 = .ok (.invokestatic 79, 3) := by decide +kernel
theorem dX1_lunarMeeting_4 : decode cX1_lunarMeeting 4 = .ok (.ifCond .eq 32, 3) := by decide +kernel
theorem dX1_lunarMeeting_7 : decode cX1_lunarMeeting 7 = .ok (.iload_n 3, 1) := by decide +kernel
theorem dX1_lunarMeeting_8 : decode cX1_lunarMeeting 8 = .ok (.i2l, 1) := by decide +kernel
theorem dX1_lunarMeeting_9 : decode cX1_lunarMeeting 9 = .ok (.lconst 0, 1) := by decide +kernel
theorem dX1_lunarMeeting_10 : decode cX1_lunarMeeting 10 = .ok (.ldc2_w 124, 3) := by decide +kernel
theorem dX1_lunarMeeting_13 : decode cX1_lunarMeeting 13 = .ok (.invokestatic 39, 3) := by decide +kernel
theorem dX1_lunarMeeting_16 : decode cX1_lunarMeeting 16 = .ok (.ifCond .eq 20, 3) := by decide +kernel
theorem dX1_lunarMeeting_19 : decode cX1_lunarMeeting 19 = .ok (.iload 4, 2) := by decide +kernel
theorem dX1_lunarMeeting_21 : decode cX1_lunarMeeting 21 = .ok (.i2l, 1) := by decide +kernel
theorem dX1_lunarMeeting_22 : decode cX1_lunarMeeting 22 = .ok (.lconst 1, 1) := by decide +kernel
theorem dX1_lunarMeeting_23 : decode cX1_lunarMeeting 23 = .ok (.ldc2_w 67, 3) := by decide +kernel
theorem dX1_lunarMeeting_26 : decode cX1_lunarMeeting 26 = .ok (.invokestatic 39, 3) := by decide +kernel
theorem dX1_lunarMeeting_29 : decode cX1_lunarMeeting 29 = .ok (.ifCond .eq 7, 3) := by decide +kernel
theorem dX1_lunarMeeting_32 : decode cX1_lunarMeeting 32 = .ok (.iconst 1, 1) := by decide +kernel
theorem dX1_lunarMeeting_33 : decode cX1_lunarMeeting 33 = .ok (.goto 4, 3) := by decide +kernel
theorem dX1_lunarMeeting_36 : decode cX1_lunarMeeting 36 = .ok (.iconst 0, 1) := by decide +kernel
theorem dX1_lunarMeeting_37 : decode cX1_lunarMeeting 37 = .ok (.istore 5, 2) := by decide +kernel
theorem dX1_lunarMeeting_39 : decode cX1_lunarMeeting 39 = .ok (.iload 5, 2) := by decide +kernel
theorem dX1_lunarMeeting_41 : decode cX1_lunarMeeting 41 = .ok (.ifCond .eq 11, 3) := by decide +kernel
theorem dX1_lunarMeeting_44 : decode cX1_lunarMeeting 44 = .ok (.aload_n 0, 1) := by decide +kernel
theorem dX1_lunarMeeting_45 : decode cX1_lunarMeeting 45 = .ok (.iload_n 1, 1) := by decide +kernel
theorem dX1_lunarMeeting_46 : decode cX1_lunarMeeting 46 = .ok (.invokevirtual 117, 3) := by decide +kernel
theorem dX1_lunarMeeting_49 : decode cX1_lunarMeeting 49 = .ok (.goto 4, 3) := by decide +kernel
theorem dX1_lunarMeeting_52 : decode cX1_lunarMeeting 52 = .ok (.iconst 1, 1) := by decide +kernel
theorem dX1_lunarMeeting_53 : decode cX1_lunarMeeting 53 = .ok (.istore 6, 2) := by decide +kernel
theorem dX1_lunarMeeting_55 : decode cX1_lunarMeeting 55 = .ok (.iload 6, 2) := by decide +kernel
theorem dX1_lunarMeeting_57 : decode cX1_lunarMeeting 57 = .ok (.ifCond .ne 16, 3) := by decide +kernel
theorem dX1_lunarMeeting_60 : decode cX1_lunarMeeting 60 = .ok (.aload_n 0, 1) := by decide +kernel
theorem dX1_lunarMeeting_61 : decode cX1_lunarMeeting 61 = .ok (.iload_n 1, 1) := by decide +kernel
theorem dX1_lunarMeeting_62 : decode cX1_lunarMeeting 62 = .ok (.iload_n 2, 1) := by decide +kernel
theorem dX1_lunarMeeting_63 : decode cX1_lunarMeeting 63 = .ok (.invokevirtual 120, 3) := by decide +kernel
theorem dX1_lunarMeeting_66 : decode cX1_lunarMeeting 66 = .ok (.ifCond .eq 7, 3) := by decide +kernel
theorem dX1_lunarMeeting_69 : decode cX1_lunarMeeting 69 = .ok (.iconst 1, 1) := by decide +kernel
theorem dX1_lunarMeeting_70 : decode cX1_lunarMeeting 70 = .ok (.goto 4, 3) := by decide +kernel
theorem dX1_lunarMeeting_73 : decode cX1_lunarMeeting 73 = .ok (.iconst 0, 1) := by decide +kernel
theorem dX1_lunarMeeting_74 : decode cX1_lunarMeeting 74 = .ok (.istore 7, 2) := by decide +kernel
theorem dX1_lunarMeeting_76 : decode cX1_lunarMeeting 76 = .ok (.aload_n 0, 1) := by decide +kernel
theorem dX1_lunarMeeting_77 : decode cX1_lunarMeeting 77 = .ok (.iload 6, 2) := by decide +kernel
theorem dX1_lunarMeeting_79 : decode cX1_lunarMeeting 79 = .ok (.ifCond .le 8, 3) := by decide +kernel
theorem dX1_lunarMeeting_82 : decode cX1_lunarMeeting 82 = .ok (.iload 6, 2) := by decide +kernel
theorem dX1_lunarMeeting_84 : decode cX1_lunarMeeting 84 = .ok (.goto 13, 3) := by decide +kernel
theorem dX1_lunarMeeting_87 : decode cX1_lunarMeeting 87 = .ok (.iload 7, 2) := by decide +kernel
theorem dX1_lunarMeeting_89 : decode cX1_lunarMeeting 89 = .ok (.ifCond .eq 7, 3) := by decide +kernel
theorem dX1_lunarMeeting_92 : decode cX1_lunarMeeting 92 = .ok (.iconst 0, 1) := by decide +kernel
theorem dX1_lunarMeeting_93 : decode cX1_lunarMeeting 93 = .ok (.goto 4, 3) := by decide +kernel
theorem dX1_lunarMeeting_96 : decode cX1_lunarMeeting 96 = .ok (.iconst 3, 1) := by decide +kernel
theorem dX1_lunarMeeting_97 : decode cX1_lunarMeeting 97 = .ok (.invokevirtual 52, 3) := by decide +kernel
theorem dX1_lunarMeeting_100 : decode cX1_lunarMeeting 100 = .ok (.ifCond .ne 5, 3) := by decide +kernel
theorem dX1_lunarMeeting_103 : decode cX1_lunarMeeting 103 = .ok (.lconst 0, 1) := by decide +kernel
theorem dX1_lunarMeeting_104 : decode cX1_lunarMeeting 104 = .ok (.lreturn, 1) := by decide +kernel
theorem dX1_lunarMeeting_105 : decode cX1_lunarMeeting 105 = .ok (.iconst 0, 1) := by decide +kernel
theorem dX1_lunarMeeting_106 : decode cX1_lunarMeeting 106 = .ok (.istore 8, 2) := by decide +kernel
theorem dX1_lunarMeeting_108 : decode cX1_lunarMeeting 108 = .ok (.iload 8, 2) := by decide +kernel
theorem dX1_lunarMeeting_110 : decode cX1_lunarMeeting 110 = .ok (.iload 4, 2) := by decide +kernel
theorem dX1_lunarMeeting_112 : decode cX1_lunarMeeting 112 = .ok (.if_icmp .ge 44, 3) := by decide +kernel
theorem dX1_lunarMeeting_115 : decode cX1_lunarMeeting 115 = .ok (.aload_n 0, 1) := by decide +kernel
theorem dX1_lunarMeeting_116 : decode cX1_lunarMeeting 116 = .ok (.aload_n 0, 1) := by decide +kernel
theorem dX1_lunarMeeting_117 : decode cX1_lunarMeeting 117 = .ok (.getfield 110, 3) := by decide +kernel
theorem dX1_lunarMeeting_120 : decode cX1_lunarMeeting 120 = .ok (.invokevirtual 126, 3) := by decide +kernel
theorem dX1_lunarMeeting_123 : decode cX1_lunarMeeting 123 = .ok (.iload_n 3, 1) := by decide +kernel
theorem dX1_lunarMeeting_124 : decode cX1_lunarMeeting 124 = .ok (.i2l, 1) := by decide +kernel
theorem dX1_lunarMeeting_125 : decode cX1_lunarMeeting 125 = .ok (.lcmp, 1) := by decide +kernel
theorem dX1_lunarMeeting_126 : decode cX1_lunarMeeting 126 = .ok (.ifCond .ne 11, 3) := by decide +kernel
theorem dX1_lunarMeeting_129 : decode cX1_lunarMeeting 129 = .ok (.aload_n 0, 1) := by decide +kernel
theorem dX1_lunarMeeting_130 : decode cX1_lunarMeeting 130 = .ok (.getfield 110, 3) := by decide +kernel
theorem dX1_lunarMeeting_133 : decode cX1_lunarMeeting 133 = .ok (.iload_n 2, 1) := by decide +kernel
theorem dX1_lunarMeeting_134 : decode cX1_lunarMeeting 134 = .ok (.i2l, 1) := by decide +kernel
theorem dX1_lunarMeeting_135 : decode cX1_lunarMeeting 135 = .ok (.lsub, 1) := by decide +kernel
theorem dX1_lunarMeeting_136 : decode cX1_lunarMeeting 136 = .ok (.lreturn, 1) := by decide +kernel
theorem dX1_lunarMeeting_137 : decode cX1_lunarMeeting 137 = .ok (.aload_n 0, 1) := by decide +kernel
theorem dX1_lunarMeeting_138 : decode cX1_lunarMeeting 138 = .ok (.dup, 1) := by decide +kernel
theorem dX1_lunarMeeting_139 : decode cX1_lunarMeeting 139 = .ok (.getfield 110, 3) := by decide +kernel
theorem dX1_lunarMeeting_142 : decode cX1_lunarMeeting 142 = .ok (.aload_n 0, 1) := by decide +kernel
theorem dX1_lunarMeeting_143 : decode cX1_lunarMeeting 143 = .ok (.getfield 114, 3) := by decide +kernel
theorem dX1_lunarMeeting_146 : decode cX1_lunarMeeting 146 = .ok (.ladd, 1) := by decide +kernel
theorem dX1_lunarMeeting_147 : decode cX1_lunarMeeting 147 = .ok (.putfield 110, 3) := by decide +kernel
theorem dX1_lunarMeeting_150 : decode cX1_lunarMeeting 150 = .ok (.iinc 8 1, 3) := by decide +kernel
theorem dX1_lunarMeeting_153 : decode cX1_lunarMeeting 153 = .ok (.goto (-45), 3) := by decide +kernel
theorem dX1_lunarMeeting_156 : decode cX1_lunarMeeting 156 = .ok (.ldc2_w 130, 3) := by decide +kernel
theorem dX1_lunarMeeting_159 : decode cX1_lunarMeeting 159 = .ok (.lreturn, 1) := by decide +kernel
set_option maxRecDepth 20000 in
theorem ggX1_best_X1_isDay : GoodIn wsX1_best wsX1_isDay := goodIn_r _ [6, 7, 8, 9, 10, 5, 11] (by decide +kernel) (by decide +kernel)
set_option maxRecDepth 20000 in
theorem gX1_best_X1_isDay : GoodIn wsX1_best (va_wsS RX1 79 yX1_isDay wsX1_isDay) := goodIn_app (goodIn_of _ (by decide +kernel)) ggX1_best_X1_isDay
set_option maxRecDepth 20000 in
theorem ggX1_best_X1_in : GoodIn wsX1_best wsX1_in := goodIn_r _ [11] (by decide +kernel) (by decide +kernel)
set_option maxRecDepth 20000 in
theorem gX1_best_X1_in : GoodIn wsX1_best (va_wsS RX1 39 yX1_in wsX1_in) := goodIn_app (goodIn_of _ (by decide +kernel)) ggX1_best_X1_in
set_option maxRecDepth 20000 in
theorem ggX1_best_X1_goesWell : GoodIn wsX1_best wsX1_goesWell := goodIn_r _ [15, 16, 33, 34, 35, 36, 37, 38, 39, 40, 41, 42, 43, 44, 45] (by decide +kernel) (by decide +kernel)
set_option maxRecDepth 20000 in
theorem gX1_best_X1_goesWell : GoodIn wsX1_best (wsV RX1 52 RX1 yX1_goesWell wsX1_goesWell) := goodIn_app (goodIn_of _ (by decide +kernel)) ggX1_best_X1_goesWell
set_option maxRecDepth 20000 in
theorem ggX1_best_X1_held : GoodIn wsX1_best wsX1_held := goodIn_r _ [20, 2, 21, 22, 23, 5, 24, 25, 26, 27, 28, 29, 33, 34, 35, 36, 37, 38, 39, 40, 41, 42, 43, 44, 45] (by decide +kernel) (by decide +kernel)
set_option maxRecDepth 20000 in
theorem gX1_best_X1_held : GoodIn wsX1_best (wsV RX1 101 RX1 yX1_held wsX1_held) := goodIn_app (goodIn_of _ (by decide +kernel)) ggX1_best_X1_held
set_option maxRecDepth 20000 in
theorem ggX1_best_X1_sizeOf : GoodIn wsX1_best wsX1_sizeOf := goodIn_r _ [32] (by decide +kernel) (by decide +kernel)
set_option maxRecDepth 20000 in
theorem gX1_best_X1_sizeOf : GoodIn wsX1_best (va_wsS RX1 105 yX1_sizeOf wsX1_sizeOf) := goodIn_app (goodIn_of _ (by decide +kernel)) ggX1_best_X1_sizeOf
theorem dX1_best_0 : decode cX1_best 0 = .ok (.iload_n 2, 1) := by decide +kernel
theorem dX1_best_1 : decode cX1_best 1 = .ok (.invokestatic 79, 3) := by decide +kernel
theorem dX1_best_4 : decode cX1_best 4 = .ok (.ifCond .eq 29, 3) := by decide +kernel
theorem dX1_best_7 : decode cX1_best 7 = .ok (.iload_n 3, 1) := by decide +kernel
theorem dX1_best_8 : decode cX1_best 8 = .ok (.invokestatic 79, 3) := by decide +kernel
theorem dX1_best_11 : decode cX1_best 11 = .ok (.ifCond .eq 22, 3) := by decide +kernel
theorem dX1_best_14 : decode cX1_best 14 = .ok (.iload_n 3, 1) := by decide +kernel
theorem dX1_best_15 : decode cX1_best 15 = .ok (.i2l, 1) := by decide +kernel
theorem dX1_best_16 : decode cX1_best 16 = .ok (.iload_n 2, 1) := by decide +kernel
theorem dX1_best_17 : decode cX1_best 17 = .ok (.i2l, 1) := by decide +kernel
theorem dX1_best_18 : decode cX1_best 18 = .ok (.lsub, 1) := by decide +kernel
theorem dX1_best_19 : decode cX1_best 19 = .ok (.lconst 0, 1) := by decide +kernel
theorem dX1_best_20 : decode cX1_best 20 = .ok (.ldc2_w 132, 3) := by decide +kernel
theorem dX1_best_23 : decode cX1_best 23 = .ok (.invokestatic 39, 3) := by decide +kernel
theorem dX1_best_26 : decode cX1_best 26 = .ok (.ifCond .eq 7, 3) := by decide +kernel
theorem dX1_best_29 : decode cX1_best 29 = .ok (.iconst 1, 1) := by decide +kernel
theorem dX1_best_30 : decode cX1_best 30 = .ok (.goto 4, 3) := by decide +kernel
theorem dX1_best_33 : decode cX1_best 33 = .ok (.iconst 0, 1) := by decide +kernel
theorem dX1_best_34 : decode cX1_best 34 = .ok (.istore 4, 2) := by decide +kernel
theorem dX1_best_36 : decode cX1_best 36 = .ok (.aload_n 0, 1) := by decide +kernel
theorem dX1_best_37 : decode cX1_best 37 = .ok (.iload 4, 2) := by decide +kernel
theorem dX1_best_39 : decode cX1_best 39 = .ok (.ifCond .ne 7, 3) := by decide +kernel
theorem dX1_best_42 : decode cX1_best 42 = .ok (.iconst 1, 1) := by decide +kernel
theorem dX1_best_43 : decode cX1_best 43 = .ok (.goto 17, 3) := by decide +kernel
theorem dX1_best_46 : decode cX1_best 46 = .ok (.iload_n 1, 1) := by decide +kernel
theorem dX1_best_47 : decode cX1_best 47 = .ok (.aload_n 0, 1) := by decide +kernel
theorem dX1_best_48 : decode cX1_best 48 = .ok (.getfield 43, 3) := by decide +kernel
theorem dX1_best_51 : decode cX1_best 51 = .ok (.iushr, 1) := by decide +kernel
theorem dX1_best_52 : decode cX1_best 52 = .ok (.ifCond .eq 7, 3) := by decide +kernel
theorem dX1_best_55 : decode cX1_best 55 = .ok (.iconst 2, 1) := by decide +kernel
theorem dX1_best_56 : decode cX1_best 56 = .ok (.goto 4, 3) := by decide +kernel
theorem dX1_best_59 : decode cX1_best 59 = .ok (.iconst 0, 1) := by decide +kernel
theorem dX1_best_60 : decode cX1_best 60 = .ok (.invokevirtual 52, 3) := by decide +kernel
theorem dX1_best_63 : decode cX1_best 63 = .ok (.ifCond .ne 5, 3) := by decide +kernel
theorem dX1_best_66 : decode cX1_best 66 = .ok (.iconst 0, 1) := by decide +kernel
theorem dX1_best_67 : decode cX1_best 67 = .ok (.ireturn, 1) := by decide +kernel
theorem dX1_best_68 : decode cX1_best 68 = .ok (.iload_n 2, 1) := by decide +kernel
theorem dX1_best_69 : decode cX1_best 69 = .ok (.istore 5, 2) := by decide +kernel
theorem dX1_best_71 : decode cX1_best 71 = .ok (.iload_n 2, 1) := by decide +kernel
theorem dX1_best_72 : decode cX1_best 72 = .ok (.istore 6, 2) := by decide +kernel
theorem dX1_best_74 : decode cX1_best 74 = .ok (.iload 6, 2) := by decide +kernel
theorem dX1_best_76 : decode cX1_best 76 = .ok (.iload_n 3, 1) := by decide +kernel
theorem dX1_best_77 : decode cX1_best 77 = .ok (.if_icmp .gt 43, 3) := by decide +kernel
theorem dX1_best_80 : decode cX1_best 80 = .ok (.aload_n 0, 1) := by decide +kernel
theorem dX1_best_81 : decode cX1_best 81 = .ok (.iload 6, 2) := by decide +kernel
theorem dX1_best_83 : decode cX1_best 83 = .ok (.invokevirtual 101, 3) := by decide +kernel
theorem dX1_best_86 : decode cX1_best 86 = .ok (.iload_n 1, 1) := by decide +kernel
theorem dX1_best_87 : decode cX1_best 87 = .ok (.iand, 1) := by decide +kernel
theorem dX1_best_88 : decode cX1_best 88 = .ok (.invokestatic 105, 3) := by decide +kernel
theorem dX1_best_91 : decode cX1_best 91 = .ok (.aload_n 0, 1) := by decide +kernel
theorem dX1_best_92 : decode cX1_best 92 = .ok (.iload 5, 2) := by decide +kernel
theorem dX1_best_94 : decode cX1_best 94 = .ok (.invokevirtual 101, 3) := by decide +kernel
theorem dX1_best_97 : decode cX1_best 97 = .ok (.iload_n 1, 1) := by decide +kernel
theorem dX1_best_98 : decode cX1_best 98 = .ok (.iand, 1) := by decide +kernel
theorem dX1_best_99 : decode cX1_best 99 = .ok (.invokestatic 105, 3) := by decide +kernel
theorem dX1_best_102 : decode cX1_best 102 = .ok (.if_icmp .le 8, 3) := by decide +kernel
theorem dX1_best_105 : decode cX1_best 105 = .ok (.iload 6, 2) := by decide +kernel
theorem dX1_best_107 : decode cX1_best 107 = .ok (.goto 5, 3) := by decide +kernel
theorem dX1_best_110 : decode cX1_best 110 = .ok (.iload 5, 2) := by decide +kernel
theorem dX1_best_112 : decode cX1_best 112 = .ok (.istore 5, 2) := by decide +kernel
theorem dX1_best_114 : decode cX1_best 114 = .ok (.iinc 6 1, 3) := by decide +kernel
theorem dX1_best_117 : decode cX1_best 117 = .ok (.goto (-43), 3) := by decide +kernel
theorem dX1_best_120 : decode cX1_best 120 = .ok (.iload 5, 2) := by decide +kernel
theorem dX1_best_122 : decode cX1_best 122 = .ok (.ireturn, 1) := by decide +kernel
set_option maxRecDepth 20000 in
theorem ggX1_monthOf_X1_part : GoodIn wsX1_monthOf wsX1_part := goodIn_r _ [7, 8, 9, 6, 10] (by decide +kernel) (by decide +kernel)
set_option maxRecDepth 20000 in
theorem gX1_monthOf_X1_part : GoodIn wsX1_monthOf (va_wsS RX1 90 yX1_part wsX1_part) := goodIn_app (goodIn_of _ (by decide +kernel)) ggX1_monthOf_X1_part
theorem dX1_monthOf_0 : decode cX1_monthOf 0 = .ok (.lload_n 1, 1) := by decide +kernel
theorem dX1_monthOf_1 : decode cX1_monthOf 1 = .ok (.aload_n 0, 1) := by decide +kernel
theorem dX1_monthOf_2 : decode cX1_monthOf 2 = .ok (.getfield 69, 3) := by decide +kernel
theorem dX1_monthOf_5 : decode cX1_monthOf 5 = .ok (.i2l, 1) := by decide +kernel
theorem dX1_monthOf_6 : decode cX1_monthOf 6 = .ok (.ladd, 1) := by decide +kernel
theorem dX1_monthOf_7 : decode cX1_monthOf 7 = .ok (.aload_n 0, 1) := by decide +kernel
theorem dX1_monthOf_8 : decode cX1_monthOf 8 = .ok (.getfield 20, 3) := by decide +kernel
theorem dX1_monthOf_11 : decode cX1_monthOf 11 = .ok (.i2l, 1) := by decide +kernel
theorem dX1_monthOf_12 : decode cX1_monthOf 12 = .ok (.lmul, 1) := by decide +kernel
theorem dX1_monthOf_13 : decode cX1_monthOf 13 = .ok (.aload_n 0, 1) := by decide +kernel
theorem dX1_monthOf_14 : decode cX1_monthOf 14 = .ok (.getfield 16, 3) := by decide +kernel
theorem dX1_monthOf_17 : decode cX1_monthOf 17 = .ok (.i2l, 1) := by decide +kernel
theorem dX1_monthOf_18 : decode cX1_monthOf 18 = .ok (.invokestatic 90, 3) := by decide +kernel
theorem dX1_monthOf_21 : decode cX1_monthOf 21 = .ok (.lreturn, 1) := by decide +kernel
set_option maxRecDepth 20000 in
theorem ggX1_month_X1_isDay : GoodIn wsX1_month wsX1_isDay := goodIn_r _ [4, 5, 6, 7, 8, 3, 9] (by decide +kernel) (by decide +kernel)
set_option maxRecDepth 20000 in
theorem gX1_month_X1_isDay : GoodIn wsX1_month (va_wsS RX1 79 yX1_isDay wsX1_isDay) := goodIn_app (goodIn_of _ (by decide +kernel)) ggX1_month_X1_isDay
set_option maxRecDepth 20000 in
theorem ggX1_month_X1_goesWell : GoodIn wsX1_month wsX1_goesWell := goodIn_r _ [13, 14, 28, 29, 30, 31, 32, 33, 34, 35, 36, 37, 38, 39, 40] (by decide +kernel) (by decide +kernel)
set_option maxRecDepth 20000 in
theorem gX1_month_X1_goesWell : GoodIn wsX1_month (wsV RX1 52 RX1 yX1_goesWell wsX1_goesWell) := goodIn_app (goodIn_of _ (by decide +kernel)) ggX1_month_X1_goesWell
set_option maxRecDepth 20000 in
theorem ggX1_month_X1_monthOf : GoodIn wsX1_month wsX1_monthOf := goodIn_r _ [18, 19, 20, 21, 22, 23, 3, 24, 25, 26, 27, 28, 29, 30, 31, 32, 33, 34, 35, 36, 37, 38, 39, 40] (by decide +kernel) (by decide +kernel)
set_option maxRecDepth 20000 in
theorem gX1_month_X1_monthOf : GoodIn wsX1_month (wsV RX1 134 RX1 yX1_monthOf wsX1_monthOf) := goodIn_app (goodIn_of _ (by decide +kernel)) ggX1_month_X1_monthOf
theorem dX1_month_0 : decode cX1_month 0 = .ok (.aload_n 0, 1) := by decide +kernel
theorem dX1_month_1 : decode cX1_month 1 = .ok (.iload_n 1, 1) := by decide +kernel
theorem dX1_month_2 : decode cX1_month 2 = .ok (.invokestatic 79, 3) := by decide +kernel
theorem dX1_month_5 : decode cX1_month 5 = .ok (.ifCond .eq 7, 3) := by decide +kernel
theorem dX1_month_8 : decode cX1_month 8 = .ok (.iconst 0, 1) := by decide +kernel
theorem dX1_month_9 : decode cX1_month 9 = .ok (.goto 4, 3) := by decide +kernel
theorem dX1_month_12 : decode cX1_month 12 = .ok (.iconst 1, 1) := by decide +kernel
theorem dX1_month_13 : decode cX1_month 13 = .ok (.invokevirtual 52, 3) := by decide +kernel
theorem dX1_month_16 : decode cX1_month 16 = .ok (.ifCond .eq 13, 3) := by decide +kernel
theorem dX1_month_19 : decode cX1_month 19 = .ok (.aload_n 0, 1) := by decide +kernel
theorem dX1_month_20 : decode cX1_month 20 = .ok (.iload_n 1, 1) := by decide +kernel
theorem dX1_month_21 : decode cX1_month 21 = .ok (.i2l, 1) := by decide +kernel
theorem dX1_month_22 : decode cX1_month 22 = .ok (.invokevirtual 134, 3) := by decide +kernel
theorem dX1_month_25 : decode cX1_month 25 = .ok (.l2i, 1) := by decide +kernel
theorem dX1_month_26 : decode cX1_month 26 = .ok (.goto 4, 3) := by decide +kernel
theorem dX1_month_29 : decode cX1_month 29 = .ok (.iconst 0, 1) := by decide +kernel
theorem dX1_month_30 : decode cX1_month 30 = .ok (.ireturn, 1) := by decide +kernel
set_option maxRecDepth 20000 in
theorem ggX1_lunarDay_X1_isDay : GoodIn wsX1_lunarDay wsX1_isDay := goodIn_r _ [4, 5, 6, 7, 8, 3, 9] (by decide +kernel) (by decide +kernel)
set_option maxRecDepth 20000 in
theorem gX1_lunarDay_X1_isDay : GoodIn wsX1_lunarDay (va_wsS RX1 79 yX1_isDay wsX1_isDay) := goodIn_app (goodIn_of _ (by decide +kernel)) ggX1_lunarDay_X1_isDay
set_option maxRecDepth 20000 in
theorem ggX1_lunarDay_X1_goesWell : GoodIn wsX1_lunarDay wsX1_goesWell := goodIn_r _ [13, 14, 25, 26, 27, 28, 29, 30, 31, 32, 33, 34, 35, 36, 37] (by decide +kernel) (by decide +kernel)
set_option maxRecDepth 20000 in
theorem gX1_lunarDay_X1_goesWell : GoodIn wsX1_lunarDay (wsV RX1 52 RX1 yX1_goesWell wsX1_goesWell) := goodIn_app (goodIn_of _ (by decide +kernel)) ggX1_lunarDay_X1_goesWell
set_option maxRecDepth 20000 in
theorem ggX1_lunarDay_X1_lunarOf : GoodIn wsX1_lunarDay wsX1_lunarOf := goodIn_r _ [18, 19, 20, 21, 22, 23, 3, 24, 25, 26, 27, 28, 29, 30, 31, 32, 33, 34, 35, 36, 37] (by decide +kernel) (by decide +kernel)
set_option maxRecDepth 20000 in
theorem gX1_lunarDay_X1_lunarOf : GoodIn wsX1_lunarDay (wsV RX1 126 RX1 yX1_lunarOf wsX1_lunarOf) := goodIn_app (goodIn_of _ (by decide +kernel)) ggX1_lunarDay_X1_lunarOf
theorem dX1_lunarDay_0 : decode cX1_lunarDay 0 = .ok (.aload_n 0, 1) := by decide +kernel
theorem dX1_lunarDay_1 : decode cX1_lunarDay 1 = .ok (.iload_n 1, 1) := by decide +kernel
theorem dX1_lunarDay_2 : decode cX1_lunarDay 2 = .ok (.invokestatic 79, 3) := by decide +kernel
theorem dX1_lunarDay_5 : decode cX1_lunarDay 5 = .ok (.ifCond .eq 7, 3) := by decide +kernel
theorem dX1_lunarDay_8 : decode cX1_lunarDay 8 = .ok (.iconst 0, 1) := by decide +kernel
theorem dX1_lunarDay_9 : decode cX1_lunarDay 9 = .ok (.goto 4, 3) := by decide +kernel
theorem dX1_lunarDay_12 : decode cX1_lunarDay 12 = .ok (.iconst 1, 1) := by decide +kernel
theorem dX1_lunarDay_13 : decode cX1_lunarDay 13 = .ok (.invokevirtual 52, 3) := by decide +kernel
theorem dX1_lunarDay_16 : decode cX1_lunarDay 16 = .ok (.ifCond .eq 13, 3) := by decide +kernel
theorem dX1_lunarDay_19 : decode cX1_lunarDay 19 = .ok (.aload_n 0, 1) := by decide +kernel
theorem dX1_lunarDay_20 : decode cX1_lunarDay 20 = .ok (.iload_n 1, 1) := by decide +kernel
theorem dX1_lunarDay_21 : decode cX1_lunarDay 21 = .ok (.i2l, 1) := by decide +kernel
theorem dX1_lunarDay_22 : decode cX1_lunarDay 22 = .ok (.invokevirtual 126, 3) := by decide +kernel
theorem dX1_lunarDay_25 : decode cX1_lunarDay 25 = .ok (.l2i, 1) := by decide +kernel
theorem dX1_lunarDay_26 : decode cX1_lunarDay 26 = .ok (.goto 4, 3) := by decide +kernel
theorem dX1_lunarDay_29 : decode cX1_lunarDay 29 = .ok (.iconst 0, 1) := by decide +kernel
theorem dX1_lunarDay_30 : decode cX1_lunarDay 30 = .ok (.ireturn, 1) := by decide +kernel
set_option maxRecDepth 20000 in
theorem ggX1_monthBegin_X1_in : GoodIn wsX1_monthBegin wsX1_in := goodIn_r _ [10] (by decide +kernel) (by decide +kernel)
set_option maxRecDepth 20000 in
theorem gX1_monthBegin_X1_in : GoodIn wsX1_monthBegin (va_wsS RX1 39 yX1_in wsX1_in) := goodIn_app (goodIn_of _ (by decide +kernel)) ggX1_monthBegin_X1_in
set_option maxRecDepth 20000 in
theorem ggX1_monthBegin_X1_goesWell : GoodIn wsX1_monthBegin wsX1_goesWell := goodIn_r _ [14, 15, 26, 27, 28, 29, 30, 31, 32, 33, 34, 35, 36, 37, 38] (by decide +kernel) (by decide +kernel)
set_option maxRecDepth 20000 in
theorem gX1_monthBegin_X1_goesWell : GoodIn wsX1_monthBegin (wsV RX1 52 RX1 yX1_goesWell wsX1_goesWell) := goodIn_app (goodIn_of _ (by decide +kernel)) ggX1_monthBegin_X1_goesWell
set_option maxRecDepth 20000 in
theorem ggX1_monthBegin_X1_part : GoodIn wsX1_monthBegin wsX1_part := goodIn_r _ [18, 19, 20, 9, 21] (by decide +kernel) (by decide +kernel)
set_option maxRecDepth 20000 in
theorem gX1_monthBegin_X1_part : GoodIn wsX1_monthBegin (va_wsS RX1 90 yX1_part wsX1_part) := goodIn_app (goodIn_of _ (by decide +kernel)) ggX1_monthBegin_X1_part
set_option maxRecDepth 20000 in
theorem ggX1_monthBegin_X1_monthOf : GoodIn wsX1_monthBegin wsX1_monthOf := goodIn_r _ [25, 5, 4, 3, 16, 17, 9, 18, 19, 20, 21, 26, 27, 28, 29, 30, 31, 32, 33, 34, 35, 36, 37, 38] (by decide +kernel) (by decide +kernel)
set_option maxRecDepth 20000 in
theorem gX1_monthBegin_X1_monthOf : GoodIn wsX1_monthBegin (wsV RX1 134 RX1 yX1_monthOf wsX1_monthOf) := goodIn_app (goodIn_of _ (by decide +kernel)) ggX1_monthBegin_X1_monthOf
theorem dX1_monthBegin_0 : decode cX1_monthBegin 0 = .ok (.aload_n 0, 1) := by decide +kernel
theorem dX1_monthBegin_1 : decode cX1_monthBegin 1 = .ok (.iload_n 1, 1) := by decide +kernel
theorem dX1_monthBegin_2 : decode cX1_monthBegin 2 = .ok (.i2l, 1) := by decide +kernel
theorem dX1_monthBegin_3 : decode cX1_monthBegin 3 = .ok (.ldc2_w 137, 3) := by decide +kernel
theorem dX1_monthBegin_6 : decode cX1_monthBegin 6 = .ok (.ldc2_w 139, 3) := by decide +kernel
theorem dX1_monthBegin_9 : decode cX1_monthBegin 9 = .ok (.invokestatic 39, 3) := by decide +kernel
theorem dX1_monthBegin_12 : decode cX1_monthBegin 12 = .ok (.ifCond .eq 7, 3) := by decide +kernel
theorem dX1_monthBegin_15 : decode cX1_monthBegin 15 = .ok (.iconst 0, 1) := by decide +kernel
theorem dX1_monthBegin_16 : decode cX1_monthBegin 16 = .ok (.goto 4, 3) := by decide +kernel
theorem dX1_monthBegin_19 : decode cX1_monthBegin 19 = .ok (.iconst 1, 1) := by decide +kernel
theorem dX1_monthBegin_20 : decode cX1_monthBegin 20 = .ok (.invokevirtual 52, 3) := by decide +kernel
theorem dX1_monthBegin_23 : decode cX1_monthBegin 23 = .ok (.ifCond .ne 5, 3) := by decide +kernel
theorem dX1_monthBegin_26 : decode cX1_monthBegin 26 = .ok (.iconst 0, 1) := by decide +kernel
theorem dX1_monthBegin_27 : decode cX1_monthBegin 27 = .ok (.ireturn, 1) := by decide +kernel
theorem dX1_monthBegin_28 : decode cX1_monthBegin 28 = .ok (.iload_n 1, 1) := by decide +kernel
theorem dX1_monthBegin_29 : decode cX1_monthBegin 29 = .ok (.i2l, 1) := by decide +kernel
theorem dX1_monthBegin_30 : decode cX1_monthBegin 30 = .ok (.aload_n 0, 1) := by decide +kernel
theorem dX1_monthBegin_31 : decode cX1_monthBegin 31 = .ok (.getfield 16, 3) := by decide +kernel
theorem dX1_monthBegin_34 : decode cX1_monthBegin 34 = .ok (.i2l, 1) := by decide +kernel
theorem dX1_monthBegin_35 : decode cX1_monthBegin 35 = .ok (.lmul, 1) := by decide +kernel
theorem dX1_monthBegin_36 : decode cX1_monthBegin 36 = .ok (.aload_n 0, 1) := by decide +kernel
theorem dX1_monthBegin_37 : decode cX1_monthBegin 37 = .ok (.getfield 20, 3) := by decide +kernel
theorem dX1_monthBegin_40 : decode cX1_monthBegin 40 = .ok (.i2l, 1) := by decide +kernel
theorem dX1_monthBegin_41 : decode cX1_monthBegin 41 = .ok (.invokestatic 90, 3) := by decide +kernel
theorem dX1_monthBegin_44 : decode cX1_monthBegin 44 = .ok (.aload_n 0, 1) := by decide +kernel
theorem dX1_monthBegin_45 : decode cX1_monthBegin 45 = .ok (.getfield 69, 3) := by decide +kernel
theorem dX1_monthBegin_48 : decode cX1_monthBegin 48 = .ok (.i2l, 1) := by decide +kernel
theorem dX1_monthBegin_49 : decode cX1_monthBegin 49 = .ok (.lsub, 1) := by decide +kernel
theorem dX1_monthBegin_50 : decode cX1_monthBegin 50 = .ok (.ldc2_w 63, 3) := by decide +kernel
theorem dX1_monthBegin_53 : decode cX1_monthBegin 53 = .ok (.lsub, 1) := by decide +kernel
theorem dX1_monthBegin_54 : decode cX1_monthBegin 54 = .ok (.lstore_n 2, 1) := by decide +kernel
theorem dX1_monthBegin_55 : decode cX1_monthBegin 55 = .ok (.aload_n 0, 1) := by decide +kernel
theorem dX1_monthBegin_56 : decode cX1_monthBegin 56 = .ok (.lload_n 2, 1) := by decide +kernel
theorem dX1_monthBegin_57 : decode cX1_monthBegin 57 = .ok (.invokevirtual 134, 3) := by decide +kernel
theorem dX1_monthBegin_60 : decode cX1_monthBegin 60 = .ok (.iload_n 1, 1) := by decide +kernel
theorem dX1_monthBegin_61 : decode cX1_monthBegin 61 = .ok (.i2l, 1) := by decide +kernel
theorem dX1_monthBegin_62 : decode cX1_monthBegin 62 = .ok (.lcmp, 1) := by decide +kernel
theorem dX1_monthBegin_63 : decode cX1_monthBegin 63 = .ok (.ifCond .ge 10, 3) := by decide +kernel
theorem dX1_monthBegin_66 : decode cX1_monthBegin 66 = .ok (.lload_n 2, 1) := by decide +kernel
theorem dX1_monthBegin_67 : decode cX1_monthBegin 67 = .ok (.lconst 1, 1) := by decide +kernel
theorem dX1_monthBegin_68 : decode cX1_monthBegin 68 = .ok (.ladd, 1) := by decide +kernel
theorem dX1_monthBegin_69 : decode cX1_monthBegin 69 = .ok (.lstore_n 2, 1) := by decide +kernel
theorem dX1_monthBegin_70 : decode cX1_monthBegin 70 = .ok (.goto (-15), 3) := by decide +kernel
theorem dX1_monthBegin_73 : decode cX1_monthBegin 73 = .ok (.lload_n 2, 1) := by decide +kernel
theorem dX1_monthBegin_74 : decode cX1_monthBegin 74 = .ok (.l2i, 1) := by decide +kernel
theorem dX1_monthBegin_75 : decode cX1_monthBegin 75 = .ok (.ireturn, 1) := by decide +kernel
set_option maxRecDepth 20000 in
theorem ggX1_beginOf_X1_part : GoodIn wsX1_beginOf wsX1_part := goodIn_r _ [8, 9, 10, 7, 11] (by decide +kernel) (by decide +kernel)
set_option maxRecDepth 20000 in
theorem gX1_beginOf_X1_part : GoodIn wsX1_beginOf (va_wsS RX1 90 yX1_part wsX1_part) := goodIn_app (goodIn_of _ (by decide +kernel)) ggX1_beginOf_X1_part
theorem dX1_beginOf_0 : decode cX1_beginOf 0 = .ok (.aload_n 0, 1) := by decide +kernel
theorem dX1_beginOf_1 : decode cX1_beginOf 1 = .ok (.getfield 23, 3) := by decide +kernel
theorem dX1_beginOf_4 : decode cX1_beginOf 4 = .ok (.i2l, 1) := by decide +kernel
theorem dX1_beginOf_5 : decode cX1_beginOf 5 = .ok (.lload_n 1, 1) := by decide +kernel
theorem dX1_beginOf_6 : decode cX1_beginOf 6 = .ok (.lmul, 1) := by decide +kernel
theorem dX1_beginOf_7 : decode cX1_beginOf 7 = .ok (.aload_n 0, 1) := by decide +kernel
theorem dX1_beginOf_8 : decode cX1_beginOf 8 = .ok (.getfield 26, 3) := by decide +kernel
theorem dX1_beginOf_11 : decode cX1_beginOf 11 = .ok (.i2l, 1) := by decide +kernel
theorem dX1_beginOf_12 : decode cX1_beginOf 12 = .ok (.lload_n 1, 1) := by decide +kernel
theorem dX1_beginOf_13 : decode cX1_beginOf 13 = .ok (.lmul, 1) := by decide +kernel
theorem dX1_beginOf_14 : decode cX1_beginOf 14 = .ok (.aload_n 0, 1) := by decide +kernel
theorem dX1_beginOf_15 : decode cX1_beginOf 15 = .ok (.getfield 76, 3) := by decide +kernel
theorem dX1_beginOf_18 : decode cX1_beginOf 18 = .ok (.i2l, 1) := by decide +kernel
theorem dX1_beginOf_19 : decode cX1_beginOf 19 = .ok (.ladd, 1) := by decide +kernel
theorem dX1_beginOf_20 : decode cX1_beginOf 20 = .ok (.aload_n 0, 1) := by decide +kernel
theorem dX1_beginOf_21 : decode cX1_beginOf 21 = .ok (.getfield 29, 3) := by decide +kernel
theorem dX1_beginOf_24 : decode cX1_beginOf 24 = .ok (.i2l, 1) := by decide +kernel
theorem dX1_beginOf_25 : decode cX1_beginOf 25 = .ok (.invokestatic 90, 3) := by decide +kernel
theorem dX1_beginOf_28 : decode cX1_beginOf 28 = .ok (.ladd, 1) := by decide +kernel
theorem dX1_beginOf_29 : decode cX1_beginOf 29 = .ok (.lreturn, 1) := by decide +kernel
set_option maxRecDepth 20000 in
theorem ggX1_leaps_X1_modulo : GoodIn wsX1_leaps wsX1_modulo := goodIn_r _ [7] (by decide +kernel) (by decide +kernel)
set_option maxRecDepth 20000 in
theorem gX1_leaps_X1_modulo : GoodIn wsX1_leaps (va_wsS RX1 46 yX1_modulo wsX1_modulo) := goodIn_app (goodIn_of _ (by decide +kernel)) ggX1_leaps_X1_modulo
theorem dX1_leaps_0 : decode cX1_leaps 0 = .ok (.aload_n 0, 1) := by decide +kernel
theorem dX1_leaps_1 : decode cX1_leaps 1 = .ok (.getfield 26, 3) := by decide +kernel
theorem dX1_leaps_4 : decode cX1_leaps 4 = .ok (.i2l, 1) := by decide +kernel
theorem dX1_leaps_5 : decode cX1_leaps 5 = .ok (.lload_n 1, 1) := by decide +kernel
theorem dX1_leaps_6 : decode cX1_leaps 6 = .ok (.lmul, 1) := by decide +kernel
theorem dX1_leaps_7 : decode cX1_leaps 7 = .ok (.aload_n 0, 1) := by decide +kernel
theorem dX1_leaps_8 : decode cX1_leaps 8 = .ok (.getfield 76, 3) := by decide +kernel
theorem dX1_leaps_11 : decode cX1_leaps 11 = .ok (.i2l, 1) := by decide +kernel
theorem dX1_leaps_12 : decode cX1_leaps 12 = .ok (.ladd, 1) := by decide +kernel
theorem dX1_leaps_13 : decode cX1_leaps 13 = .ok (.aload_n 0, 1) := by decide +kernel
theorem dX1_leaps_14 : decode cX1_leaps 14 = .ok (.getfield 29, 3) := by decide +kernel
theorem dX1_leaps_17 : decode cX1_leaps 17 = .ok (.i2l, 1) := by decide +kernel
theorem dX1_leaps_18 : decode cX1_leaps 18 = .ok (.invokestatic 46, 3) := by decide +kernel
theorem dX1_leaps_21 : decode cX1_leaps 21 = .ok (.aload_n 0, 1) := by decide +kernel
theorem dX1_leaps_22 : decode cX1_leaps 22 = .ok (.getfield 29, 3) := by decide +kernel
theorem dX1_leaps_25 : decode cX1_leaps 25 = .ok (.aload_n 0, 1) := by decide +kernel
theorem dX1_leaps_26 : decode cX1_leaps 26 = .ok (.getfield 26, 3) := by decide +kernel
theorem dX1_leaps_29 : decode cX1_leaps 29 = .ok (.isub, 1) := by decide +kernel
theorem dX1_leaps_30 : decode cX1_leaps 30 = .ok (.i2l, 1) := by decide +kernel
theorem dX1_leaps_31 : decode cX1_leaps 31 = .ok (.lcmp, 1) := by decide +kernel
theorem dX1_leaps_32 : decode cX1_leaps 32 = .ok (.ifCond .lt 7, 3) := by decide +kernel
theorem dX1_leaps_35 : decode cX1_leaps 35 = .ok (.iconst 1, 1) := by decide +kernel
theorem dX1_leaps_36 : decode cX1_leaps 36 = .ok (.goto 4, 3) := by decide +kernel
theorem dX1_leaps_39 : decode cX1_leaps 39 = .ok (.iconst 0, 1) := by decide +kernel
theorem dX1_leaps_40 : decode cX1_leaps 40 = .ok (.ireturn, 1) := by decide +kernel
set_option maxRecDepth 20000 in
theorem ggX1_yearOf_X1_part : GoodIn wsX1_yearOf wsX1_part := goodIn_r _ [6, 7, 8, 5, 9] (by decide +kernel) (by decide +kernel)
set_option maxRecDepth 20000 in
theorem gX1_yearOf_X1_part : GoodIn wsX1_yearOf (va_wsS RX1 90 yX1_part wsX1_part) := goodIn_app (goodIn_of _ (by decide +kernel)) ggX1_yearOf_X1_part
set_option maxRecDepth 20000 in
theorem ggX1_yearOf_X1_beginOf : GoodIn wsX1_yearOf wsX1_beginOf := goodIn_r _ [13, 1, 14, 15, 16, 3, 4, 5, 6, 7, 8, 9, 17, 18, 19, 20, 21, 22, 23, 24, 25, 26, 27, 28, 29] (by decide +kernel) (by decide +kernel)
set_option maxRecDepth 20000 in
theorem gX1_yearOf_X1_beginOf : GoodIn wsX1_yearOf (wsV RX1 141 RX1 yX1_beginOf wsX1_beginOf) := goodIn_app (goodIn_of _ (by decide +kernel)) ggX1_yearOf_X1_beginOf
theorem dX1_yearOf_0 : decode cX1_yearOf 0 = .ok (.iload_n 1, 1) := by decide +kernel
theorem dX1_yearOf_1 : decode cX1_yearOf 1 = .ok (.i2l, 1) := by decide +kernel
theorem dX1_yearOf_2 : decode cX1_yearOf 2 = .ok (.iload_n 1, 1) := by decide +kernel
theorem dX1_yearOf_3 : decode cX1_yearOf 3 = .ok (.ifCond .ge 13, 3) := by decide +kernel
theorem dX1_yearOf_6 : decode cX1_yearOf 6 = .ok (.aload_n 0, 1) := by decide +kernel
theorem dX1_yearOf_7 : decode cX1_yearOf 7 = .ok (.getfield 23, 3) := by decide +kernel
theorem dX1_yearOf_10 : decode cX1_yearOf 10 = .ok (.i2l, 1) := by decide +kernel
theorem dX1_yearOf_11 : decode cX1_yearOf 11 = .ok (.lconst 1, 1) := by decide +kernel
theorem dX1_yearOf_12 : decode cX1_yearOf 12 = .ok (.ladd, 1) := by decide +kernel
theorem dX1_yearOf_13 : decode cX1_yearOf 13 = .ok (.goto 8, 3) := by decide +kernel
theorem dX1_yearOf_16 : decode cX1_yearOf 16 = .ok (.aload_n 0, 1) := by decide +kernel
theorem dX1_yearOf_17 : decode cX1_yearOf 17 = .ok (.getfield 23, 3) := by decide +kernel
theorem dX1_yearOf_20 : decode cX1_yearOf 20 = .ok (.i2l, 1) := by decide +kernel
theorem dX1_yearOf_21 : decode cX1_yearOf 21 = .ok (.invokestatic 90, 3) := by decide +kernel
theorem dX1_yearOf_24 : decode cX1_yearOf 24 = .ok (.ldc2_w 63, 3) := by decide +kernel
theorem dX1_yearOf_27 : decode cX1_yearOf 27 = .ok (.ladd, 1) := by decide +kernel
theorem dX1_yearOf_28 : decode cX1_yearOf 28 = .ok (.lstore_n 2, 1) := by decide +kernel
theorem dX1_yearOf_29 : decode cX1_yearOf 29 = .ok (.aload_n 0, 1) := by decide +kernel
theorem dX1_yearOf_30 : decode cX1_yearOf 30 = .ok (.lload_n 2, 1) := by decide +kernel
theorem dX1_yearOf_31 : decode cX1_yearOf 31 = .ok (.invokevirtual 141, 3) := by decide +kernel
theorem dX1_yearOf_34 : decode cX1_yearOf 34 = .ok (.iload_n 1, 1) := by decide +kernel
theorem dX1_yearOf_35 : decode cX1_yearOf 35 = .ok (.i2l, 1) := by decide +kernel
theorem dX1_yearOf_36 : decode cX1_yearOf 36 = .ok (.lcmp, 1) := by decide +kernel
theorem dX1_yearOf_37 : decode cX1_yearOf 37 = .ok (.ifCond .le 10, 3) := by decide +kernel
theorem dX1_yearOf_40 : decode cX1_yearOf 40 = .ok (.lload_n 2, 1) := by decide +kernel
theorem dX1_yearOf_41 : decode cX1_yearOf 41 = .ok (.lconst 1, 1) := by decide +kernel
theorem dX1_yearOf_42 : decode cX1_yearOf 42 = .ok (.lsub, 1) := by decide +kernel
theorem dX1_yearOf_43 : decode cX1_yearOf 43 = .ok (.lstore_n 2, 1) := by decide +kernel
theorem dX1_yearOf_44 : decode cX1_yearOf 44 = .ok (.goto (-15), 3) := by decide +kernel
theorem dX1_yearOf_47 : decode cX1_yearOf 47 = .ok (.lload_n 2, 1) := by decide +kernel
theorem dX1_yearOf_48 : decode cX1_yearOf 48 = .ok (.lreturn, 1) := by decide +kernel
set_option maxRecDepth 20000 in
theorem ggX1_year_X1_isDay : GoodIn wsX1_year wsX1_isDay := goodIn_r _ [4, 5, 6, 7, 8, 3, 9] (by decide +kernel) (by decide +kernel)
set_option maxRecDepth 20000 in
theorem gX1_year_X1_isDay : GoodIn wsX1_year (va_wsS RX1 79 yX1_isDay wsX1_isDay) := goodIn_app (goodIn_of _ (by decide +kernel)) ggX1_year_X1_isDay
set_option maxRecDepth 20000 in
theorem ggX1_year_X1_goesWell : GoodIn wsX1_year wsX1_goesWell := goodIn_r _ [13, 14, 34, 35, 36, 37, 38, 39, 40, 41, 42, 43, 44, 45, 46] (by decide +kernel) (by decide +kernel)
set_option maxRecDepth 20000 in
theorem gX1_year_X1_goesWell : GoodIn wsX1_year (wsV RX1 52 RX1 yX1_goesWell wsX1_goesWell) := goodIn_app (goodIn_of _ (by decide +kernel)) ggX1_year_X1_goesWell
set_option maxRecDepth 20000 in
theorem ggX1_year_X1_yearOf : GoodIn wsX1_year wsX1_yearOf := goodIn_r _ [18, 19, 20, 21, 22, 3, 23, 24, 25, 26, 27, 28, 29, 30, 31, 32, 33, 34, 35, 36, 37, 38, 39, 40, 41, 42, 43, 44, 45, 46] (by decide +kernel) (by decide +kernel)
set_option maxRecDepth 20000 in
theorem gX1_year_X1_yearOf : GoodIn wsX1_year (wsV RX1 144 RX1 yX1_yearOf wsX1_yearOf) := goodIn_app (goodIn_of _ (by decide +kernel)) ggX1_year_X1_yearOf
theorem dX1_year_0 : decode cX1_year 0 = .ok (.aload_n 0, 1) := by decide +kernel
theorem dX1_year_1 : decode cX1_year 1 = .ok (.iload_n 1, 1) := by decide +kernel
theorem dX1_year_2 : decode cX1_year 2 = .ok (.invokestatic 79, 3) := by decide +kernel
theorem dX1_year_5 : decode cX1_year 5 = .ok (.ifCond .eq 7, 3) := by decide +kernel
theorem dX1_year_8 : decode cX1_year 8 = .ok (.iconst 0, 1) := by decide +kernel
theorem dX1_year_9 : decode cX1_year 9 = .ok (.goto 4, 3) := by decide +kernel
theorem dX1_year_12 : decode cX1_year 12 = .ok (.iconst 1, 1) := by decide +kernel
theorem dX1_year_13 : decode cX1_year 13 = .ok (.invokevirtual 52, 3) := by decide +kernel
theorem dX1_year_16 : decode cX1_year 16 = .ok (.ifCond .eq 12, 3) := by decide +kernel
theorem dX1_year_19 : decode cX1_year 19 = .ok (.aload_n 0, 1) := by decide +kernel
theorem dX1_year_20 : decode cX1_year 20 = .ok (.iload_n 1, 1) := by decide +kernel
theorem dX1_year_21 : decode cX1_year 21 = .ok (.invokevirtual 144, 3) := by decide +kernel
theorem dX1_year_24 : decode cX1_year 24 = .ok (.l2i, 1) := by decide +kernel
theorem dX1_year_25 : decode cX1_year 25 = .ok (.goto 4, 3) := by decide +kernel
theorem dX1_year_28 : decode cX1_year 28 = .ok (.iconst 0, 1) := by decide +kernel
theorem dX1_year_29 : decode cX1_year 29 = .ok (.ireturn, 1) := by decide +kernel
set_option maxRecDepth 20000 in
theorem ggX1_placeInYear_X1_isDay : GoodIn wsX1_placeInYear wsX1_isDay := goodIn_r _ [4, 5, 6, 7, 8, 3, 9] (by decide +kernel) (by decide +kernel)
set_option maxRecDepth 20000 in
theorem gX1_placeInYear_X1_isDay : GoodIn wsX1_placeInYear (va_wsS RX1 79 yX1_isDay wsX1_isDay) := goodIn_app (goodIn_of _ (by decide +kernel)) ggX1_placeInYear_X1_isDay
set_option maxRecDepth 20000 in
theorem ggX1_placeInYear_X1_goesWell : GoodIn wsX1_placeInYear wsX1_goesWell := goodIn_r _ [13, 14, 34, 35, 36, 37, 38, 39, 40, 41, 42, 43, 44, 45, 46] (by decide +kernel) (by decide +kernel)
set_option maxRecDepth 20000 in
theorem gX1_placeInYear_X1_goesWell : GoodIn wsX1_placeInYear (wsV RX1 52 RX1 yX1_goesWell wsX1_goesWell) := goodIn_app (goodIn_of _ (by decide +kernel)) ggX1_placeInYear_X1_goesWell
set_option maxRecDepth 20000 in
theorem ggX1_placeInYear_X1_yearOf : GoodIn wsX1_placeInYear wsX1_yearOf := goodIn_r _ [18, 19, 20, 21, 22, 3, 23, 24, 25, 26, 27, 28, 29, 30, 31, 32, 33, 34, 35, 36, 37, 38, 39, 40, 41, 42, 43, 44, 45, 46] (by decide +kernel) (by decide +kernel)
set_option maxRecDepth 20000 in
theorem gX1_placeInYear_X1_yearOf : GoodIn wsX1_placeInYear (wsV RX1 144 RX1 yX1_yearOf wsX1_yearOf) := goodIn_app (goodIn_of _ (by decide +kernel)) ggX1_placeInYear_X1_yearOf
set_option maxRecDepth 20000 in
theorem ggX1_placeInYear_X1_beginOf : GoodIn wsX1_placeInYear wsX1_beginOf := goodIn_r _ [30, 19, 31, 32, 33, 21, 22, 3, 23, 24, 25, 26, 34, 35, 36, 37, 38, 39, 40, 41, 42, 43, 44, 45, 46] (by decide +kernel) (by decide +kernel)
set_option maxRecDepth 20000 in
theorem gX1_placeInYear_X1_beginOf : GoodIn wsX1_placeInYear (wsV RX1 141 RX1 yX1_beginOf wsX1_beginOf) := goodIn_app (goodIn_of _ (by decide +kernel)) ggX1_placeInYear_X1_beginOf
theorem dX1_placeInYear_0 : decode cX1_placeInYear 0 = .ok (.aload_n 0, 1) := by decide +kernel
theorem dX1_placeInYear_1 : decode cX1_placeInYear 1 = .ok (.iload_n 1, 1) := by decide +kernel
theorem dX1_placeInYear_2 : decode cX1_placeInYear 2 = .ok (.invokestatic 79, 3) := by decide +kernel
theorem dX1_placeInYear_5 : decode cX1_placeInYear 5 = .ok (.ifCond .eq 7, 3) := by decide +kernel
theorem dX1_placeInYear_8 : decode cX1_placeInYear 8 = .ok (.iconst 0, 1) := by decide +kernel
theorem dX1_placeInYear_9 : decode cX1_placeInYear 9 = .ok (.goto 4, 3) := by decide +kernel
theorem dX1_placeInYear_12 : decode cX1_placeInYear 12 = .ok (.iconst 1, 1) := by decide +kernel
theorem dX1_placeInYear_13 : decode cX1_placeInYear 13 = .ok (.invokevirtual 52, 3) := by decide +kernel
theorem dX1_placeInYear_16 : decode cX1_placeInYear 16 = .ok (.ifCond .eq 19, 3) := by decide +kernel
theorem dX1_placeInYear_19 : decode cX1_placeInYear 19 = .ok (.iload_n 1, 1) := by decide +kernel
theorem dX1_placeInYear_20 : decode cX1_placeInYear 20 = .ok (.i2l, 1) := by decide +kernel
theorem dX1_placeInYear_21 : decode cX1_placeInYear 21 = .ok (.aload_n 0, 1) := by decide +kernel
theorem dX1_placeInYear_22 : decode cX1_placeInYear 22 = .ok (.aload_n 0, 1) := by decide +kernel
theorem dX1_placeInYear_23 : decode cX1_placeInYear 23 = .ok (.iload_n 1, 1) := by decide +kernel
theorem dX1_placeInYear_24 : decode cX1_placeInYear 24 = .ok (.invokevirtual 144, 3) := by decide +kernel
theorem dX1_placeInYear_27 : decode cX1_placeInYear 27 = .ok (.invokevirtual 141, 3) := by decide +kernel
theorem dX1_placeInYear_30 : decode cX1_placeInYear 30 = .ok (.lsub, 1) := by decide +kernel
theorem dX1_placeInYear_31 : decode cX1_placeInYear 31 = .ok (.l2i, 1) := by decide +kernel
theorem dX1_placeInYear_32 : decode cX1_placeInYear 32 = .ok (.goto 4, 3) := by decide +kernel
theorem dX1_placeInYear_35 : decode cX1_placeInYear 35 = .ok (.iconst 0, 1) := by decide +kernel
theorem dX1_placeInYear_36 : decode cX1_placeInYear 36 = .ok (.ireturn, 1) := by decide +kernel
set_option maxRecDepth 20000 in
theorem ggX1_isYear_X1_in : GoodIn wsX1_isYear wsX1_in := goodIn_r _ [6] (by decide +kernel) (by decide +kernel)
set_option maxRecDepth 20000 in
theorem gX1_isYear_X1_in : GoodIn wsX1_isYear (va_wsS RX1 39 yX1_in wsX1_in) := goodIn_app (goodIn_of _ (by decide +kernel)) ggX1_isYear_X1_in
theorem dX1_isYear_0 : decode cX1_isYear 0 = .ok (.iload_n 0, 1) := by decide +kernel
theorem dX1_isYear_1 : decode cX1_isYear 1 = .ok (.i2l, 1) := by decide +kernel
theorem dX1_isYear_2 : decode cX1_isYear 2 = .ok (.ldc2_w 148, 3) := by decide +kernel
theorem dX1_isYear_5 : decode cX1_isYear 5 = .ok (.ldc2_w 150, 3) := by decide +kernel
theorem dX1_isYear_8 : decode cX1_isYear 8 = .ok (.invokestatic 39, 3) := by decide +kernel
theorem dX1_isYear_11 : decode cX1_isYear 11 = .ok (.ireturn, 1) := by decide +kernel
set_option maxRecDepth 20000 in
theorem ggX1_isLeap_X1_isYear : GoodIn wsX1_isLeap wsX1_isYear := goodIn_r _ [4, 5, 6, 7, 8, 3, 9] (by decide +kernel) (by decide +kernel)
set_option maxRecDepth 20000 in
theorem gX1_isLeap_X1_isYear : GoodIn wsX1_isLeap (va_wsS RX1 152 yX1_isYear wsX1_isYear) := goodIn_app (goodIn_of _ (by decide +kernel)) ggX1_isLeap_X1_isYear
set_option maxRecDepth 20000 in
theorem ggX1_isLeap_X1_goesWell : GoodIn wsX1_isLeap wsX1_goesWell := goodIn_r _ [13, 14, 25, 26, 27, 28, 29, 30, 31, 32, 33, 34, 35, 36, 37] (by decide +kernel) (by decide +kernel)
set_option maxRecDepth 20000 in
theorem gX1_isLeap_X1_goesWell : GoodIn wsX1_isLeap (wsV RX1 52 RX1 yX1_goesWell wsX1_goesWell) := goodIn_app (goodIn_of _ (by decide +kernel)) ggX1_isLeap_X1_goesWell
set_option maxRecDepth 20000 in
theorem ggX1_isLeap_X1_leaps : GoodIn wsX1_isLeap wsX1_leaps := goodIn_r _ [18, 19, 20, 21, 22, 23, 3, 24, 25, 26, 27, 28, 29, 30, 31, 32, 33, 34, 35, 36, 37] (by decide +kernel) (by decide +kernel)
set_option maxRecDepth 20000 in
theorem gX1_isLeap_X1_leaps : GoodIn wsX1_isLeap (wsV RX1 155 RX1 yX1_leaps wsX1_leaps) := goodIn_app (goodIn_of _ (by decide +kernel)) ggX1_isLeap_X1_leaps
theorem dX1_isLeap_0 : decode cX1_isLeap 0 = .ok (.aload_n 0, 1) := by decide +kernel
theorem dX1_isLeap_1 : decode cX1_isLeap 1 = .ok (.iload_n 1, 1) := by decide +kernel
theorem dX1_isLeap_2 : decode cX1_isLeap 2 = .ok (.invokestatic 152, 3) := by decide +kernel
theorem dX1_isLeap_5 : decode cX1_isLeap 5 = .ok (.ifCond .eq 7, 3) := by decide +kernel
theorem dX1_isLeap_8 : decode cX1_isLeap 8 = .ok (.iconst 0, 1) := by decide +kernel
theorem dX1_isLeap_9 : decode cX1_isLeap 9 = .ok (.goto 4, 3) := by decide +kernel
theorem dX1_isLeap_12 : decode cX1_isLeap 12 = .ok (.iconst 1, 1) := by decide +kernel
theorem dX1_isLeap_13 : decode cX1_isLeap 13 = .ok (.invokevirtual 52, 3) := by decide +kernel
theorem dX1_isLeap_16 : decode cX1_isLeap 16 = .ok (.ifCond .eq 16, 3) := by decide +kernel
theorem dX1_isLeap_19 : decode cX1_isLeap 19 = .ok (.aload_n 0, 1) := by decide +kernel
theorem dX1_isLeap_20 : decode cX1_isLeap 20 = .ok (.iload_n 1, 1) := by decide +kernel
theorem dX1_isLeap_21 : decode cX1_isLeap 21 = .ok (.i2l, 1) := by decide +kernel
theorem dX1_isLeap_22 : decode cX1_isLeap 22 = .ok (.invokevirtual 155, 3) := by decide +kernel
theorem dX1_isLeap_25 : decode cX1_isLeap 25 = .ok (.ifCond .eq 7, 3) := by decide +kernel
theorem dX1_isLeap_28 : decode cX1_isLeap 28 = .ok (.iconst 1, 1) := by decide +kernel
theorem dX1_isLeap_29 : decode cX1_isLeap 29 = .ok (.goto 4, 3) := by decide +kernel
theorem dX1_isLeap_32 : decode cX1_isLeap 32 = .ok (.iconst 0, 1) := by decide +kernel
theorem dX1_isLeap_33 : decode cX1_isLeap 33 = .ok (.ireturn, 1) := by decide +kernel
set_option maxRecDepth 20000 in
theorem ggX1_lengthOf_X1_leaps : GoodIn wsX1_lengthOf wsX1_leaps := goodIn_r _ [6, 7, 8, 9, 10, 11, 5, 12, 13, 14, 15, 16, 17, 18, 19, 20, 21, 22, 23, 24, 25] (by decide +kernel) (by decide +kernel)
set_option maxRecDepth 20000 in
theorem gX1_lengthOf_X1_leaps : GoodIn wsX1_lengthOf (wsV RX1 155 RX1 yX1_leaps wsX1_leaps) := goodIn_app (goodIn_of _ (by decide +kernel)) ggX1_lengthOf_X1_leaps
theorem dX1_lengthOf_0 : decode cX1_lengthOf 0 = .ok (.aload_n 0, 1) := by decide +kernel
theorem dX1_lengthOf_1 : decode cX1_lengthOf 1 = .ok (.iload_n 1, 1) := by decide +kernel
theorem dX1_lengthOf_2 : decode cX1_lengthOf 2 = .ok (.i2l, 1) := by decide +kernel
theorem dX1_lengthOf_3 : decode cX1_lengthOf 3 = .ok (.invokevirtual 155, 3) := by decide +kernel
theorem dX1_lengthOf_6 : decode cX1_lengthOf 6 = .ok (.ifCond .eq 13, 3) := by decide +kernel
theorem dX1_lengthOf_9 : decode cX1_lengthOf 9 = .ok (.aload_n 0, 1) := by decide +kernel
theorem dX1_lengthOf_10 : decode cX1_lengthOf 10 = .ok (.getfield 23, 3) := by decide +kernel
theorem dX1_lengthOf_13 : decode cX1_lengthOf 13 = .ok (.i2l, 1) := by decide +kernel
theorem dX1_lengthOf_14 : decode cX1_lengthOf 14 = .ok (.lconst 1, 1) := by decide +kernel
theorem dX1_lengthOf_15 : decode cX1_lengthOf 15 = .ok (.ladd, 1) := by decide +kernel
theorem dX1_lengthOf_16 : decode cX1_lengthOf 16 = .ok (.goto 8, 3) := by decide +kernel
theorem dX1_lengthOf_19 : decode cX1_lengthOf 19 = .ok (.aload_n 0, 1) := by decide +kernel
theorem dX1_lengthOf_20 : decode cX1_lengthOf 20 = .ok (.getfield 23, 3) := by decide +kernel
theorem dX1_lengthOf_23 : decode cX1_lengthOf 23 = .ok (.i2l, 1) := by decide +kernel
theorem dX1_lengthOf_24 : decode cX1_lengthOf 24 = .ok (.lreturn, 1) := by decide +kernel
set_option maxRecDepth 20000 in
theorem ggX1_dayOf_X1_isYear : GoodIn wsX1_dayOf wsX1_isYear := goodIn_r _ [4, 5, 6, 7, 8, 3, 9] (by decide +kernel) (by decide +kernel)
set_option maxRecDepth 20000 in
theorem gX1_dayOf_X1_isYear : GoodIn wsX1_dayOf (va_wsS RX1 152 yX1_isYear wsX1_isYear) := goodIn_app (goodIn_of _ (by decide +kernel)) ggX1_dayOf_X1_isYear
set_option maxRecDepth 20000 in
theorem ggX1_dayOf_X1_lengthOf : GoodIn wsX1_dayOf wsX1_lengthOf := goodIn_r _ [13, 14, 15, 16, 17, 3, 18, 19, 20, 21, 22, 23, 24, 37, 38, 39, 40, 41, 42, 43, 44, 45, 46, 47, 48, 49] (by decide +kernel) (by decide +kernel)
set_option maxRecDepth 20000 in
theorem gX1_dayOf_X1_lengthOf : GoodIn wsX1_dayOf (wsV RX1 159 RX1 yX1_lengthOf wsX1_lengthOf) := goodIn_app (goodIn_of _ (by decide +kernel)) ggX1_dayOf_X1_lengthOf
set_option maxRecDepth 20000 in
theorem ggX1_dayOf_X1_in : GoodIn wsX1_dayOf wsX1_in := goodIn_r _ [9] (by decide +kernel) (by decide +kernel)
set_option maxRecDepth 20000 in
theorem gX1_dayOf_X1_in : GoodIn wsX1_dayOf (va_wsS RX1 39 yX1_in wsX1_in) := goodIn_app (goodIn_of _ (by decide +kernel)) ggX1_dayOf_X1_in
set_option maxRecDepth 20000 in
theorem ggX1_dayOf_X1_goesWell : GoodIn wsX1_dayOf wsX1_goesWell := goodIn_r _ [28, 29, 37, 38, 39, 40, 41, 42, 43, 44, 45, 46, 47, 48, 49] (by decide +kernel) (by decide +kernel)
set_option maxRecDepth 20000 in
theorem gX1_dayOf_X1_goesWell : GoodIn wsX1_dayOf (wsV RX1 52 RX1 yX1_goesWell wsX1_goesWell) := goodIn_app (goodIn_of _ (by decide +kernel)) ggX1_dayOf_X1_goesWell
set_option maxRecDepth 20000 in
theorem ggX1_dayOf_X1_beginOf : GoodIn wsX1_dayOf wsX1_beginOf := goodIn_r _ [33, 14, 19, 20, 21, 34, 35, 3, 36, 22, 23, 24, 37, 38, 39, 40, 41, 42, 43, 44, 45, 46, 47, 48, 49] (by decide +kernel) (by decide +kernel)
set_option maxRecDepth 20000 in
theorem gX1_dayOf_X1_beginOf : GoodIn wsX1_dayOf (wsV RX1 141 RX1 yX1_beginOf wsX1_beginOf) := goodIn_app (goodIn_of _ (by decide +kernel)) ggX1_dayOf_X1_beginOf
theorem dX1_dayOf_0 : decode cX1_dayOf 0 = .ok (.iload_n 1, 1) := by decide +kernel
theorem dX1_dayOf_1 : decode cX1_dayOf 1 = .ok (.invokestatic 152, 3) := by decide +kernel
theorem dX1_dayOf_4 : decode cX1_dayOf 4 = .ok (.ifCond .eq 23, 3) := by decide +kernel
theorem dX1_dayOf_7 : decode cX1_dayOf 7 = .ok (.iload_n 2, 1) := by decide +kernel
theorem dX1_dayOf_8 : decode cX1_dayOf 8 = .ok (.i2l, 1) := by decide +kernel
theorem dX1_dayOf_9 : decode cX1_dayOf 9 = .ok (.lconst 0, 1) := by decide +kernel
theorem dX1_dayOf_10 : decode cX1_dayOf 10 = .ok (.aload_n 0, 1) := by decide +kernel
theorem dX1_dayOf_11 : decode cX1_dayOf 11 = .ok (.iload_n 1, 1) := by decide +kernel
theorem dX1_dayOf_12 : decode cX1_dayOf 12 = .ok (.invokevirtual 159, 3) := by decide +kernel
theorem dX1_dayOf_15 : decode cX1_dayOf 15 = .ok (.lconst 1, 1) := by decide +kernel
theorem dX1_dayOf_16 : decode cX1_dayOf 16 = .ok (.lsub, 1) := by decide +kernel
theorem dX1_dayOf_17 : decode cX1_dayOf 17 = .ok (.invokestatic 39, 3) := by decide +kernel
theorem dX1_dayOf_20 : decode cX1_dayOf 20 = .ok (.ifCond .eq 7, 3) := by decide +kernel
theorem dX1_dayOf_23 : decode cX1_dayOf 23 = .ok (.iconst 1, 1) := by decide +kernel
theorem dX1_dayOf_24 : decode cX1_dayOf 24 = .ok (.goto 4, 3) := by decide +kernel
theorem dX1_dayOf_27 : decode cX1_dayOf 27 = .ok (.iconst 0, 1) := by decide +kernel
theorem dX1_dayOf_28 : decode cX1_dayOf 28 = .ok (.istore_n 3, 1) := by decide +kernel
theorem dX1_dayOf_29 : decode cX1_dayOf 29 = .ok (.aload_n 0, 1) := by decide +kernel
theorem dX1_dayOf_30 : decode cX1_dayOf 30 = .ok (.iload_n 3, 1) := by decide +kernel
theorem dX1_dayOf_31 : decode cX1_dayOf 31 = .ok (.ifCond .eq 7, 3) := by decide +kernel
theorem dX1_dayOf_34 : decode cX1_dayOf 34 = .ok (.iconst 0, 1) := by decide +kernel
theorem dX1_dayOf_35 : decode cX1_dayOf 35 = .ok (.goto 4, 3) := by decide +kernel
theorem dX1_dayOf_38 : decode cX1_dayOf 38 = .ok (.iconst 1, 1) := by decide +kernel
theorem dX1_dayOf_39 : decode cX1_dayOf 39 = .ok (.invokevirtual 52, 3) := by decide +kernel
theorem dX1_dayOf_42 : decode cX1_dayOf 42 = .ok (.ifCond .eq 15, 3) := by decide +kernel
theorem dX1_dayOf_45 : decode cX1_dayOf 45 = .ok (.aload_n 0, 1) := by decide +kernel
theorem dX1_dayOf_46 : decode cX1_dayOf 46 = .ok (.iload_n 1, 1) := by decide +kernel
theorem dX1_dayOf_47 : decode cX1_dayOf 47 = .ok (.i2l, 1) := by decide +kernel
theorem dX1_dayOf_48 : decode cX1_dayOf 48 = .ok (.invokevirtual 141, 3) := by decide +kernel
theorem dX1_dayOf_51 : decode cX1_dayOf 51 = .ok (.l2i, 1) := by decide +kernel
theorem dX1_dayOf_52 : decode cX1_dayOf 52 = .ok (.iload_n 2, 1) := by decide +kernel
theorem dX1_dayOf_53 : decode cX1_dayOf 53 = .ok (.iadd, 1) := by decide +kernel
theorem dX1_dayOf_54 : decode cX1_dayOf 54 = .ok (.goto 4, 3) := by decide +kernel
theorem dX1_dayOf_57 : decode cX1_dayOf 57 = .ok (.iconst 0, 1) := by decide +kernel
theorem dX1_dayOf_58 : decode cX1_dayOf 58 = .ok (.ireturn, 1) := by decide +kernel
set_option maxRecDepth 20000 in
theorem ggX1_timesInYear_X1_isMarket : GoodIn wsX1_timesInYear wsX1_isMarket := goodIn_r _ [5, 6, 7, 8, 4, 9, 52, 53, 54, 55, 56, 57, 58, 59, 60, 61, 62, 63, 64] (by decide +kernel) (by decide +kernel)
set_option maxRecDepth 20000 in
theorem gX1_timesInYear_X1_isMarket : GoodIn wsX1_timesInYear (wsV RX1 56 RX1 yX1_isMarket wsX1_isMarket) := goodIn_app (goodIn_of _ (by decide +kernel)) ggX1_timesInYear_X1_isMarket
set_option maxRecDepth 20000 in
theorem ggX1_timesInYear_X1_isYear : GoodIn wsX1_timesInYear wsX1_isYear := goodIn_r _ [12, 13, 14, 7, 8, 4, 9] (by decide +kernel) (by decide +kernel)
set_option maxRecDepth 20000 in
theorem gX1_timesInYear_X1_isYear : GoodIn wsX1_timesInYear (va_wsS RX1 152 yX1_isYear wsX1_isYear) := goodIn_app (goodIn_of _ (by decide +kernel)) ggX1_timesInYear_X1_isYear
set_option maxRecDepth 20000 in
theorem ggX1_timesInYear_X1_goesWell : GoodIn wsX1_timesInYear wsX1_goesWell := goodIn_r _ [18, 19, 52, 53, 54, 55, 56, 57, 58, 59, 60, 61, 62, 63, 64] (by decide +kernel) (by decide +kernel)
set_option maxRecDepth 20000 in
theorem gX1_timesInYear_X1_goesWell : GoodIn wsX1_timesInYear (wsV RX1 52 RX1 yX1_goesWell wsX1_goesWell) := goodIn_app (goodIn_of _ (by decide +kernel)) ggX1_timesInYear_X1_goesWell
set_option maxRecDepth 20000 in
theorem ggX1_timesInYear_X1_beginOf : GoodIn wsX1_timesInYear wsX1_beginOf := goodIn_r _ [23, 24, 25, 26, 27, 28, 29, 4, 30, 31, 32, 33, 52, 53, 54, 55, 56, 57, 58, 59, 60, 61, 62, 63, 64] (by decide +kernel) (by decide +kernel)
set_option maxRecDepth 20000 in
theorem gX1_timesInYear_X1_beginOf : GoodIn wsX1_timesInYear (wsV RX1 141 RX1 yX1_beginOf wsX1_beginOf) := goodIn_app (goodIn_of _ (by decide +kernel)) ggX1_timesInYear_X1_beginOf
set_option maxRecDepth 20000 in
theorem ggX1_timesInYear_X1_lengthOf : GoodIn wsX1_timesInYear wsX1_lengthOf := goodIn_r _ [37, 24, 38, 39, 40, 4, 41, 25, 26, 27, 31, 32, 33, 52, 53, 54, 55, 56, 57, 58, 59, 60, 61, 62, 63, 64] (by decide +kernel) (by decide +kernel)
set_option maxRecDepth 20000 in
theorem gX1_timesInYear_X1_lengthOf : GoodIn wsX1_timesInYear (wsV RX1 159 RX1 yX1_lengthOf wsX1_lengthOf) := goodIn_app (goodIn_of _ (by decide +kernel)) ggX1_timesInYear_X1_lengthOf
set_option maxRecDepth 20000 in
theorem ggX1_timesInYear_X1_count : GoodIn wsX1_timesInYear wsX1_count := goodIn_r _ [45, 46, 47, 48, 4, 49, 50, 51, 28, 29, 30, 31, 32, 33, 52, 53, 54, 55, 56, 57, 58, 59, 60, 61, 62, 63, 64] (by decide +kernel) (by decide +kernel)
set_option maxRecDepth 20000 in
theorem gX1_timesInYear_X1_count : GoodIn wsX1_timesInYear (wsV RX1 97 RX1 yX1_count wsX1_count) := goodIn_app (goodIn_of _ (by decide +kernel)) ggX1_timesInYear_X1_count
theorem dX1_timesInYear_0 : decode cX1_timesInYear 0 = .ok (.aload_n 0, 1) := by decide +kernel
theorem dX1_timesInYear_1 : decode cX1_timesInYear 1 = .ok (.aload_n 0, 1) := by decide +kernel
theorem dX1_timesInYear_2 : decode cX1_timesInYear 2 = .ok (.iload_n 1, 1) := by decide +kernel
theorem dX1_timesInYear_3 : decode cX1_timesInYear 3 = .ok (.invokevirtual 56, 3) := by decide +kernel
theorem dX1_timesInYear_6 : decode cX1_timesInYear 6 = .ok (.ifCond .ne 7, 3) := by decide +kernel
theorem dX1_timesInYear_9 : decode cX1_timesInYear 9 = .ok (.iconst 1, 1) := by decide +kernel
theorem dX1_timesInYear_10 : decode cX1_timesInYear 10 = .ok (.goto 15, 3) := by decide +kernel
theorem dX1_timesInYear_13 : decode cX1_timesInYear 13 = .ok (.iload_n 2, 1) := by decide +kernel
theorem dX1_timesInYear_14 : decode cX1_timesInYear 14 = .ok (.invokestatic 152, 3) := by decide +kernel
theorem dX1_timesInYear_17 : decode cX1_timesInYear 17 = .ok (.ifCond .eq 7, 3) := by decide +kernel
theorem dX1_timesInYear_20 : decode cX1_timesInYear 20 = .ok (.iconst 0, 1) := by decide +kernel
theorem dX1_timesInYear_21 : decode cX1_timesInYear 21 = .ok (.goto 4, 3) := by decide +kernel
theorem dX1_timesInYear_24 : decode cX1_timesInYear 24 = .ok (.iconst 2, 1) := by decide +kernel
theorem dX1_timesInYear_25 : decode cX1_timesInYear 25 = .ok (.invokevirtual 52, 3) := by decide +kernel
theorem dX1_timesInYear_28 : decode cX1_timesInYear 28 = .ok (.ifCond .ne 5, 3) := by decide +kernel
theorem dX1_timesInYear_31 : decode cX1_timesInYear 31 = .ok (.iconst 0, 1) := by decide +kernel
theorem dX1_timesInYear_32 : decode cX1_timesInYear 32 = .ok (.ireturn, 1) := by decide +kernel
theorem dX1_timesInYear_33 : decode cX1_timesInYear 33 = .ok (.aload_n 0, 1) := by decide +kernel
theorem dX1_timesInYear_34 : decode cX1_timesInYear 34 = .ok (.iload_n 1, 1) := by decide +kernel
theorem dX1_timesInYear_35 : decode cX1_timesInYear 35 = .ok (.aload_n 0, 1) := by decide +kernel
theorem dX1_timesInYear_36 : decode cX1_timesInYear 36 = .ok (.iload_n 2, 1) := by decide +kernel
theorem dX1_timesInYear_37 : decode cX1_timesInYear 37 = .ok (.i2l, 1) := by decide +kernel
theorem dX1_timesInYear_38 : decode cX1_timesInYear 38 = .ok (.invokevirtual 141, 3) := by decide +kernel
theorem dX1_timesInYear_41 : decode cX1_timesInYear 41 = .ok (.aload_n 0, 1) := by decide +kernel
theorem dX1_timesInYear_42 : decode cX1_timesInYear 42 = .ok (.iload_n 2, 1) := by decide +kernel
theorem dX1_timesInYear_43 : decode cX1_timesInYear 43 = .ok (.i2l, 1) := by decide +kernel
theorem dX1_timesInYear_44 : decode cX1_timesInYear 44 = .ok (.invokevirtual 141, 3) := by decide +kernel
theorem dX1_timesInYear_47 : decode cX1_timesInYear 47 = .ok (.aload_n 0, 1) := by decide +kernel
theorem dX1_timesInYear_48 : decode cX1_timesInYear 48 = .ok (.iload_n 2, 1) := by decide +kernel
theorem dX1_timesInYear_49 : decode cX1_timesInYear 49 = .ok (.invokevirtual 159, 3) := by decide +kernel
theorem dX1_timesInYear_52 : decode cX1_timesInYear 52 = .ok (.ladd, 1) := by decide +kernel
theorem dX1_timesInYear_53 : decode cX1_timesInYear 53 = .ok (.lconst 1, 1) := by decide +kernel
theorem dX1_timesInYear_54 : decode cX1_timesInYear 54 = .ok (.lsub, 1) := by decide +kernel
theorem dX1_timesInYear_55 : decode cX1_timesInYear 55 = .ok (.invokevirtual 97, 3) := by decide +kernel
theorem dX1_timesInYear_58 : decode cX1_timesInYear 58 = .ok (.ireturn, 1) := by decide +kernel
theorem dJ6_bitCount_0f7a4_0 : decode cJ6_bitCount_0f7a4 0 = .ok (.iload_n 0, 1) := by decide +kernel
theorem dJ6_bitCount_0f7a4_1 : decode cJ6_bitCount_0f7a4 1 = .ok (.iload_n 0, 1) := by decide +kernel
theorem dJ6_bitCount_0f7a4_2 : decode cJ6_bitCount_0f7a4 2 = .ok (.iconst 1, 1) := by decide +kernel
theorem dJ6_bitCount_0f7a4_3 : decode cJ6_bitCount_0f7a4 3 = .ok (.iushr, 1) := by decide +kernel
theorem dJ6_bitCount_0f7a4_4 : decode cJ6_bitCount_0f7a4 4 = .ok (.ldc_w 265, 3) := by decide +kernel
theorem dJ6_bitCount_0f7a4_7 : decode cJ6_bitCount_0f7a4 7 = .ok (.iand, 1) := by decide +kernel
theorem dJ6_bitCount_0f7a4_8 : decode cJ6_bitCount_0f7a4 8 = .ok (.isub, 1) := by decide +kernel
theorem dJ6_bitCount_0f7a4_9 : decode cJ6_bitCount_0f7a4 9 = .ok (.istore_n 0, 1) := by decide +kernel
theorem dJ6_bitCount_0f7a4_10 : decode cJ6_bitCount_0f7a4 10 = .ok (.iload_n 0, 1) := by decide +kernel
theorem dJ6_bitCount_0f7a4_11 : decode cJ6_bitCount_0f7a4 11 = .ok (.ldc_w 266, 3) := by decide +kernel
theorem dJ6_bitCount_0f7a4_14 : decode cJ6_bitCount_0f7a4 14 = .ok (.iand, 1) := by decide +kernel
theorem dJ6_bitCount_0f7a4_15 : decode cJ6_bitCount_0f7a4 15 = .ok (.iload_n 0, 1) := by decide +kernel
theorem dJ6_bitCount_0f7a4_16 : decode cJ6_bitCount_0f7a4 16 = .ok (.iconst 2, 1) := by decide +kernel
theorem dJ6_bitCount_0f7a4_17 : decode cJ6_bitCount_0f7a4 17 = .ok (.iushr, 1) := by decide +kernel
theorem dJ6_bitCount_0f7a4_18 : decode cJ6_bitCount_0f7a4 18 = .ok (.ldc_w 266, 3) := by decide +kernel
theorem dJ6_bitCount_0f7a4_21 : decode cJ6_bitCount_0f7a4 21 = .ok (.iand, 1) := by decide +kernel
theorem dJ6_bitCount_0f7a4_22 : decode cJ6_bitCount_0f7a4 22 = .ok (.iadd, 1) := by decide +kernel
theorem dJ6_bitCount_0f7a4_23 : decode cJ6_bitCount_0f7a4 23 = .ok (.istore_n 0, 1) := by decide +kernel
theorem dJ6_bitCount_0f7a4_24 : decode cJ6_bitCount_0f7a4 24 = .ok (.iload_n 0, 1) := by decide +kernel
theorem dJ6_bitCount_0f7a4_25 : decode cJ6_bitCount_0f7a4 25 = .ok (.iload_n 0, 1) := by decide +kernel
theorem dJ6_bitCount_0f7a4_26 : decode cJ6_bitCount_0f7a4 26 = .ok (.iconst 4, 1) := by decide +kernel
theorem dJ6_bitCount_0f7a4_27 : decode cJ6_bitCount_0f7a4 27 = .ok (.iushr, 1) := by decide +kernel
theorem dJ6_bitCount_0f7a4_28 : decode cJ6_bitCount_0f7a4 28 = .ok (.iadd, 1) := by decide +kernel
theorem dJ6_bitCount_0f7a4_29 : decode cJ6_bitCount_0f7a4 29 = .ok (.ldc_w 267, 3) := by decide +kernel
theorem dJ6_bitCount_0f7a4_32 : decode cJ6_bitCount_0f7a4 32 = .ok (.iand, 1) := by decide +kernel
theorem dJ6_bitCount_0f7a4_33 : decode cJ6_bitCount_0f7a4 33 = .ok (.istore_n 0, 1) := by decide +kernel
theorem dJ6_bitCount_0f7a4_34 : decode cJ6_bitCount_0f7a4 34 = .ok (.iload_n 0, 1) := by decide +kernel
theorem dJ6_bitCount_0f7a4_35 : decode cJ6_bitCount_0f7a4 35 = .ok (.iload_n 0, 1) := by decide +kernel
theorem dJ6_bitCount_0f7a4_36 : decode cJ6_bitCount_0f7a4 36 = .ok (.bipush 8, 2) := by decide +kernel
theorem dJ6_bitCount_0f7a4_38 : decode cJ6_bitCount_0f7a4 38 = .ok (.iushr, 1) := by decide +kernel
theorem dJ6_bitCount_0f7a4_39 : decode cJ6_bitCount_0f7a4 39 = .ok (.iadd, 1) := by decide +kernel
theorem dJ6_bitCount_0f7a4_40 : decode cJ6_bitCount_0f7a4 40 = .ok (.istore_n 0, 1) := by decide +kernel
theorem dJ6_bitCount_0f7a4_41 : decode cJ6_bitCount_0f7a4 41 = .ok (.iload_n 0, 1) := by decide +kernel
theorem dJ6_bitCount_0f7a4_42 : decode cJ6_bitCount_0f7a4 42 = .ok (.iload_n 0, 1) := by decide +kernel
theorem dJ6_bitCount_0f7a4_43 : decode cJ6_bitCount_0f7a4 43 = .ok (.bipush 16, 2) := by decide +kernel
theorem dJ6_bitCount_0f7a4_45 : decode cJ6_bitCount_0f7a4 45 = .ok (.iushr, 1) := by decide +kernel
theorem dJ6_bitCount_0f7a4_46 : decode cJ6_bitCount_0f7a4 46 = .ok (.iadd, 1) := by decide +kernel
theorem dJ6_bitCount_0f7a4_47 : decode cJ6_bitCount_0f7a4 47 = .ok (.istore_n 0, 1) := by decide +kernel
theorem dJ6_bitCount_0f7a4_48 : decode cJ6_bitCount_0f7a4 48 = .ok (.iload_n 0, 1) := by decide +kernel
theorem dJ6_bitCount_0f7a4_49 : decode cJ6_bitCount_0f7a4 49 = .ok (.bipush 63, 2) := by decide +kernel
theorem dJ6_bitCount_0f7a4_51 : decode cJ6_bitCount_0f7a4 51 = .ok (.iand, 1) := by decide +kernel
theorem dJ6_bitCount_0f7a4_52 : decode cJ6_bitCount_0f7a4 52 = .ok (.ireturn, 1) := by decide +kernel
theorem dJ9_floorDiv_f86c9_0 : decode cJ9_floorDiv_f86c9 0 = .ok (.lload_n 0, 1) := by decide +kernel
theorem dJ9_floorDiv_f86c9_1 : decode cJ9_floorDiv_f86c9 1 = .ok (.lload_n 2, 1) := by decide +kernel
theorem dJ9_floorDiv_f86c9_2 : decode cJ9_floorDiv_f86c9 2 = .ok (.ldiv, 1) := by decide +kernel
theorem dJ9_floorDiv_f86c9_3 : decode cJ9_floorDiv_f86c9 3 = .ok (.lstore 4, 2) := by decide +kernel
theorem dJ9_floorDiv_f86c9_5 : decode cJ9_floorDiv_f86c9 5 = .ok (.lload_n 0, 1) := by decide +kernel
theorem dJ9_floorDiv_f86c9_6 : decode cJ9_floorDiv_f86c9 6 = .ok (.lload_n 2, 1) := by decide +kernel
theorem dJ9_floorDiv_f86c9_7 : decode cJ9_floorDiv_f86c9 7 = .ok (.lxor, 1) := by decide +kernel
theorem dJ9_floorDiv_f86c9_8 : decode cJ9_floorDiv_f86c9 8 = .ok (.lconst 0, 1) := by decide +kernel
theorem dJ9_floorDiv_f86c9_9 : decode cJ9_floorDiv_f86c9 9 = .ok (.lcmp, 1) := by decide +kernel
theorem dJ9_floorDiv_f86c9_10 : decode cJ9_floorDiv_f86c9 10 = .ok (.ifCond .ge 17, 3) := by decide +kernel
theorem dJ9_floorDiv_f86c9_13 : decode cJ9_floorDiv_f86c9 13 = .ok (.lload 4, 2) := by decide +kernel
theorem dJ9_floorDiv_f86c9_15 : decode cJ9_floorDiv_f86c9 15 = .ok (.lload_n 2, 1) := by decide +kernel
theorem dJ9_floorDiv_f86c9_16 : decode cJ9_floorDiv_f86c9 16 = .ok (.lmul, 1) := by decide +kernel
theorem dJ9_floorDiv_f86c9_17 : decode cJ9_floorDiv_f86c9 17 = .ok (.lload_n 0, 1) := by decide +kernel
theorem dJ9_floorDiv_f86c9_18 : decode cJ9_floorDiv_f86c9 18 = .ok (.lcmp, 1) := by decide +kernel
theorem dJ9_floorDiv_f86c9_19 : decode cJ9_floorDiv_f86c9 19 = .ok (.ifCond .eq 8, 3) := by decide +kernel
theorem dJ9_floorDiv_f86c9_22 : decode cJ9_floorDiv_f86c9 22 = .ok (.lload 4, 2) := by decide +kernel
theorem dJ9_floorDiv_f86c9_24 : decode cJ9_floorDiv_f86c9 24 = .ok (.lconst 1, 1) := by decide +kernel
theorem dJ9_floorDiv_f86c9_25 : decode cJ9_floorDiv_f86c9 25 = .ok (.lsub, 1) := by decide +kernel
theorem dJ9_floorDiv_f86c9_26 : decode cJ9_floorDiv_f86c9 26 = .ok (.lreturn, 1) := by decide +kernel
theorem dJ9_floorDiv_f86c9_27 : decode cJ9_floorDiv_f86c9 27 = .ok (.lload 4, 2) := by decide +kernel
theorem dJ9_floorDiv_f86c9_29 : decode cJ9_floorDiv_f86c9 29 = .ok (.lreturn, 1) := by decide +kernel
theorem dJ9_floorMod_f86c9_0 : decode cJ9_floorMod_f86c9 0 = .ok (.lload_n 0, 1) := by decide +kernel
theorem dJ9_floorMod_f86c9_1 : decode cJ9_floorMod_f86c9 1 = .ok (.lload_n 2, 1) := by decide +kernel
theorem dJ9_floorMod_f86c9_2 : decode cJ9_floorMod_f86c9 2 = .ok (.lrem, 1) := by decide +kernel
theorem dJ9_floorMod_f86c9_3 : decode cJ9_floorMod_f86c9 3 = .ok (.lstore 4, 2) := by decide +kernel
theorem dJ9_floorMod_f86c9_5 : decode cJ9_floorMod_f86c9 5 = .ok (.lload_n 0, 1) := by decide +kernel
theorem dJ9_floorMod_f86c9_6 : decode cJ9_floorMod_f86c9 6 = .ok (.lload_n 2, 1) := by decide +kernel
theorem dJ9_floorMod_f86c9_7 : decode cJ9_floorMod_f86c9 7 = .ok (.lxor, 1) := by decide +kernel
theorem dJ9_floorMod_f86c9_8 : decode cJ9_floorMod_f86c9 8 = .ok (.lconst 0, 1) := by decide +kernel
theorem dJ9_floorMod_f86c9_9 : decode cJ9_floorMod_f86c9 9 = .ok (.lcmp, 1) := by decide +kernel
theorem dJ9_floorMod_f86c9_10 : decode cJ9_floorMod_f86c9 10 = .ok (.ifCond .ge 15, 3) := by decide +kernel
theorem dJ9_floorMod_f86c9_13 : decode cJ9_floorMod_f86c9 13 = .ok (.lload 4, 2) := by decide +kernel
theorem dJ9_floorMod_f86c9_15 : decode cJ9_floorMod_f86c9 15 = .ok (.lconst 0, 1) := by decide +kernel
theorem dJ9_floorMod_f86c9_16 : decode cJ9_floorMod_f86c9 16 = .ok (.lcmp, 1) := by decide +kernel
theorem dJ9_floorMod_f86c9_17 : decode cJ9_floorMod_f86c9 17 = .ok (.ifCond .eq 8, 3) := by decide +kernel
theorem dJ9_floorMod_f86c9_20 : decode cJ9_floorMod_f86c9 20 = .ok (.lload 4, 2) := by decide +kernel
theorem dJ9_floorMod_f86c9_22 : decode cJ9_floorMod_f86c9 22 = .ok (.lload_n 2, 1) := by decide +kernel
theorem dJ9_floorMod_f86c9_23 : decode cJ9_floorMod_f86c9 23 = .ok (.ladd, 1) := by decide +kernel
theorem dJ9_floorMod_f86c9_24 : decode cJ9_floorMod_f86c9 24 = .ok (.lreturn, 1) := by decide +kernel
theorem dJ9_floorMod_f86c9_25 : decode cJ9_floorMod_f86c9 25 = .ok (.lload 4, 2) := by decide +kernel
theorem dJ9_floorMod_f86c9_27 : decode cJ9_floorMod_f86c9 27 = .ok (.lreturn, 1) := by decide +kernel
set_option maxRecDepth 20000 in
theorem ggL_addMarket_X0_addMarket : GoodIn wsL_addMarket wsX0_addMarket := goodIn_ca (goodIn_ca (goodIn_r _ [7, 8, 9, 10, 11, 12, 13, 14, 6, 15, 16, 17, 18, 19, 20, 21, 22, 23, 24, 25, 26, 27, 28, 29, 30, 31, 32, 33, 34] (by decide +kernel) (by decide +kernel)) (goodIn_sub (fun _ h => List.mem_cons_of_mem _ (List.mem_append_left _ (List.mem_append_right _ h))) (by decide +kernel))) (goodIn_sub (fun _ h => List.mem_cons_of_mem _ (List.mem_append_right _ h)) (by decide +kernel))
set_option maxRecDepth 20000 in
theorem gL_addMarket_X0_addMarket : GoodIn wsL_addMarket (wsV RL 7 RX0 yX0_addMarket wsX0_addMarket) := goodIn_app (goodIn_of _ (by decide +kernel)) ggL_addMarket_X0_addMarket
theorem dL_addMarket_0 : decode cL_addMarket 0 = .ok (.aload_n 3, 1) := by decide +kernel
theorem dL_addMarket_1 : decode cL_addMarket 1 = .ok (.iconst 0, 1) := by decide +kernel
theorem dL_addMarket_2 : decode cL_addMarket 2 = .ok (.aload_n 0, 1) := by decide +kernel
theorem dL_addMarket_3 : decode cL_addMarket 3 = .ok (.iload_n 1, 1) := by decide +kernel
theorem dL_addMarket_4 : decode cL_addMarket 4 = .ok (.iload_n 2, 1) := by decide +kernel
theorem dL_addMarket_5 : decode cL_addMarket 5 = .ok (.invokevirtual 7, 3) := by decide +kernel
theorem dL_addMarket_8 : decode cL_addMarket 8 = .ok (.i2l, 1) := by decide +kernel
theorem dL_addMarket_9 : decode cL_addMarket 9 = .ok (.lastore, 1) := by decide +kernel
theorem dL_addMarket_10 : decode cL_addMarket 10 = .ok (.goto 11, 3) := by decide +kernel
theorem dL_addMarket_13 : decode cL_addMarket 13 = .ok (.astore 4, 2) := by decide +kernel
theorem dL_addMarket_15 : decode cL_addMarket 15 = .ok (.iconst 1, 1) := by decide +kernel
theorem dL_addMarket_16 : decode cL_addMarket 16 = .ok (.ireturn, 1) := by decide +kernel
theorem dL_addMarket_17 : decode cL_addMarket 17 = .ok (.astore 4, 2) := by decide +kernel
theorem dL_addMarket_19 : decode cL_addMarket 19 = .ok (.iconst 2, 1) := by decide +kernel
theorem dL_addMarket_20 : decode cL_addMarket 20 = .ok (.ireturn, 1) := by decide +kernel
theorem dL_addMarket_21 : decode cL_addMarket 21 = .ok (.iconst 0, 1) := by decide +kernel
theorem dL_addMarket_22 : decode cL_addMarket 22 = .ok (.ireturn, 1) := by decide +kernel
set_option maxRecDepth 20000 in
theorem ggL_shift_X0_shift : GoodIn wsL_shift wsX0_shift := goodIn_ca (goodIn_ca (goodIn_r _ [7, 8, 9, 10, 11, 6, 12, 13, 14, 15, 16, 17, 18, 19, 20, 21, 22, 23, 24, 25, 26, 27, 28, 29, 30, 31, 32, 33, 34, 35, 36, 37, 38, 39, 40, 41, 42, 43, 44, 45, 46, 47, 48, 49, 50, 51, 52, 53] (by decide +kernel) (by decide +kernel)) (goodIn_sub (fun _ h => List.mem_cons_of_mem _ (List.mem_append_left _ (List.mem_append_right _ h))) (by decide +kernel))) (goodIn_sub (fun _ h => List.mem_cons_of_mem _ (List.mem_append_right _ h)) (by decide +kernel))
set_option maxRecDepth 20000 in
theorem gL_shift_X0_shift : GoodIn wsL_shift (wsV RL 17 RX0 yX0_shift wsX0_shift) := goodIn_app (goodIn_of _ (by decide +kernel)) ggL_shift_X0_shift
theorem dL_shift_0 : decode cL_shift 0 = .ok (.aload_n 3, 1) := by decide +kernel
theorem dL_shift_1 : decode cL_shift 1 = .ok (.iconst 0, 1) := by decide +kernel
theorem dL_shift_2 : decode cL_shift 2 = .ok (.aload_n 0, 1) := by decide +kernel
theorem dL_shift_3 : decode cL_shift 3 = .ok (.iload_n 1, 1) := by decide +kernel
theorem dL_shift_4 : decode cL_shift 4 = .ok (.iload_n 2, 1) := by decide +kernel
theorem dL_shift_5 : decode cL_shift 5 = .ok (.invokevirtual 17, 3) := by decide +kernel
theorem dL_shift_8 : decode cL_shift 8 = .ok (.i2l, 1) := by decide +kernel
theorem dL_shift_9 : decode cL_shift 9 = .ok (.lastore, 1) := by decide +kernel
theorem dL_shift_10 : decode cL_shift 10 = .ok (.goto 11, 3) := by decide +kernel
theorem dL_shift_13 : decode cL_shift 13 = .ok (.astore 4, 2) := by decide +kernel
theorem dL_shift_15 : decode cL_shift 15 = .ok (.iconst 1, 1) := by decide +kernel
theorem dL_shift_16 : decode cL_shift 16 = .ok (.ireturn, 1) := by decide +kernel
theorem dL_shift_17 : decode cL_shift 17 = .ok (.astore 4, 2) := by decide +kernel
theorem dL_shift_19 : decode cL_shift 19 = .ok (.iconst 2, 1) := by decide +kernel
theorem dL_shift_20 : decode cL_shift 20 = .ok (.ireturn, 1) := by decide +kernel
theorem dL_shift_21 : decode cL_shift 21 = .ok (.iconst 0, 1) := by decide +kernel
theorem dL_shift_22 : decode cL_shift 22 = .ok (.ireturn, 1) := by decide +kernel
set_option maxRecDepth 20000 in
theorem ggL_setMoon_X0_setMoon : GoodIn wsL_setMoon wsX0_setMoon := goodIn_ca (goodIn_r _ [6, 7, 8, 9, 10, 11, 5, 12, 13, 14, 15, 16, 17, 18, 19, 20, 21, 22, 23, 24, 25, 26, 27] (by decide +kernel) (by decide +kernel)) (goodIn_sub (fun _ h => List.mem_cons_of_mem _ (List.mem_append_right _ h)) (by decide +kernel))
set_option maxRecDepth 20000 in
theorem gL_setMoon_X0_setMoon : GoodIn wsL_setMoon (wsV RL 22 RX0 yX0_setMoon wsX0_setMoon) := goodIn_app (goodIn_of _ (by decide +kernel)) ggL_setMoon_X0_setMoon
theorem dL_setMoon_0 : decode cL_setMoon 0 = .ok (.aload_n 0, 1) := by decide +kernel
theorem dL_setMoon_1 : decode cL_setMoon 1 = .ok (.iload_n 1, 1) := by decide +kernel
theorem dL_setMoon_2 : decode cL_setMoon 2 = .ok (.iload_n 2, 1) := by decide +kernel
theorem dL_setMoon_3 : decode cL_setMoon 3 = .ok (.iload_n 3, 1) := by decide +kernel
theorem dL_setMoon_4 : decode cL_setMoon 4 = .ok (.invokevirtual 22, 3) := by decide +kernel
theorem dL_setMoon_7 : decode cL_setMoon 7 = .ok (.goto 7, 3) := by decide +kernel
theorem dL_setMoon_10 : decode cL_setMoon 10 = .ok (.astore 4, 2) := by decide +kernel
theorem dL_setMoon_12 : decode cL_setMoon 12 = .ok (.iconst 1, 1) := by decide +kernel
theorem dL_setMoon_13 : decode cL_setMoon 13 = .ok (.ireturn, 1) := by decide +kernel
theorem dL_setMoon_14 : decode cL_setMoon 14 = .ok (.iconst 0, 1) := by decide +kernel
theorem dL_setMoon_15 : decode cL_setMoon 15 = .ok (.ireturn, 1) := by decide +kernel
set_option maxRecDepth 20000 in
theorem ggL_setYear_X0_setYear : GoodIn wsL_setYear wsX0_setYear := goodIn_ca (goodIn_r _ [6, 7, 8, 9, 10, 11, 12, 5, 13, 14, 15, 16, 17, 18, 19, 20, 21, 22, 23, 24, 25, 26, 27, 28] (by decide +kernel) (by decide +kernel)) (goodIn_sub (fun _ h => List.mem_cons_of_mem _ (List.mem_append_right _ h)) (by decide +kernel))
set_option maxRecDepth 20000 in
theorem gL_setYear_X0_setYear : GoodIn wsL_setYear (wsV RL 26 RX0 yX0_setYear wsX0_setYear) := goodIn_app (goodIn_of _ (by decide +kernel)) ggL_setYear_X0_setYear
theorem dL_setYear_0 : decode cL_setYear 0 = .ok (.aload_n 0, 1) := by decide +kernel
theorem dL_setYear_1 : decode cL_setYear 1 = .ok (.iload_n 1, 1) := by decide +kernel
theorem dL_setYear_2 : decode cL_setYear 2 = .ok (.iload_n 2, 1) := by decide +kernel
theorem dL_setYear_3 : decode cL_setYear 3 = .ok (.iload_n 3, 1) := by decide +kernel
theorem dL_setYear_4 : decode cL_setYear 4 = .ok (.iload 4, 2) := by decide +kernel
theorem dL_setYear_6 : decode cL_setYear 6 = .ok (.invokevirtual 26, 3) := by decide +kernel
theorem dL_setYear_9 : decode cL_setYear 9 = .ok (.goto 7, 3) := by decide +kernel
theorem dL_setYear_12 : decode cL_setYear 12 = .ok (.astore 5, 2) := by decide +kernel
theorem dL_setYear_14 : decode cL_setYear 14 = .ok (.iconst 1, 1) := by decide +kernel
theorem dL_setYear_15 : decode cL_setYear 15 = .ok (.ireturn, 1) := by decide +kernel
theorem dL_setYear_16 : decode cL_setYear 16 = .ok (.iconst 0, 1) := by decide +kernel
theorem dL_setYear_17 : decode cL_setYear 17 = .ok (.ireturn, 1) := by decide +kernel
set_option maxRecDepth 20000 in
theorem ggL_isHeld_X0_isHeld : GoodIn wsL_isHeld wsX0_isHeld := goodIn_ca (goodIn_ca (goodIn_r _ [7, 8, 9, 10, 6, 11, 12, 13, 14, 15, 16, 17, 18, 19, 20, 21, 22, 23, 24, 25, 26, 27, 28, 29, 30, 31, 32, 33, 34, 35, 36, 37, 38, 39, 40, 41, 42, 43, 44, 45, 46, 47, 48, 49, 50, 51, 52, 53, 54, 55, 56, 57, 58, 59, 60, 61, 62] (by decide +kernel) (by decide +kernel)) (goodIn_sub (fun _ h => List.mem_cons_of_mem _ (List.mem_append_left _ (List.mem_append_right _ h))) (by decide +kernel))) (goodIn_sub (fun _ h => List.mem_cons_of_mem _ (List.mem_append_right _ h)) (by decide +kernel))
set_option maxRecDepth 20000 in
theorem gL_isHeld_X0_isHeld : GoodIn wsL_isHeld (wsV RL 30 RX0 yX0_isHeld wsX0_isHeld) := goodIn_app (goodIn_of _ (by decide +kernel)) ggL_isHeld_X0_isHeld
theorem dL_isHeld_0 : decode cL_isHeld 0 = .ok (.aload_n 3, 1) := by decide +kernel
theorem dL_isHeld_1 : decode cL_isHeld 1 = .ok (.iconst 0, 1) := by decide +kernel
theorem dL_isHeld_2 : decode cL_isHeld 2 = .ok (.aload_n 0, 1) := by decide +kernel
theorem dL_isHeld_3 : decode cL_isHeld 3 = .ok (.iload_n 1, 1) := by decide +kernel
theorem dL_isHeld_4 : decode cL_isHeld 4 = .ok (.iload_n 2, 1) := by decide +kernel
theorem dL_isHeld_5 : decode cL_isHeld 5 = .ok (.invokevirtual 30, 3) := by decide +kernel
theorem dL_isHeld_8 : decode cL_isHeld 8 = .ok (.ifCond .eq 7, 3) := by decide +kernel
theorem dL_isHeld_11 : decode cL_isHeld 11 = .ok (.lconst 1, 1) := by decide +kernel
theorem dL_isHeld_12 : decode cL_isHeld 12 = .ok (.goto 4, 3) := by decide +kernel
theorem dL_isHeld_15 : decode cL_isHeld 15 = .ok (.lconst 0, 1) := by decide +kernel
theorem dL_isHeld_16 : decode cL_isHeld 16 = .ok (.lastore, 1) := by decide +kernel
theorem dL_isHeld_17 : decode cL_isHeld 17 = .ok (.goto 11, 3) := by decide +kernel
theorem dL_isHeld_20 : decode cL_isHeld 20 = .ok (.astore 4, 2) := by decide +kernel
theorem dL_isHeld_22 : decode cL_isHeld 22 = .ok (.iconst 1, 1) := by decide +kernel
theorem dL_isHeld_23 : decode cL_isHeld 23 = .ok (.ireturn, 1) := by decide +kernel
theorem dL_isHeld_24 : decode cL_isHeld 24 = .ok (.astore 4, 2) := by decide +kernel
theorem dL_isHeld_26 : decode cL_isHeld 26 = .ok (.iconst 2, 1) := by decide +kernel
theorem dL_isHeld_27 : decode cL_isHeld 27 = .ok (.ireturn, 1) := by decide +kernel
theorem dL_isHeld_28 : decode cL_isHeld 28 = .ok (.iconst 0, 1) := by decide +kernel
theorem dL_isHeld_29 : decode cL_isHeld 29 = .ok (.ireturn, 1) := by decide +kernel
set_option maxRecDepth 20000 in
theorem ggL_next_X0_next : GoodIn wsL_next wsX0_next := goodIn_ca (goodIn_ca (goodIn_r _ [7, 8, 9, 10, 6, 11, 12, 13, 14, 15, 16, 17, 18, 19, 20, 21, 22, 23, 24, 25, 26, 27, 28, 29, 30, 31, 32, 33, 34, 35, 36, 37, 38, 39, 40, 41, 42, 43, 44, 45, 46, 47, 48, 49, 50, 51, 52, 53, 54, 55, 56, 57, 58] (by decide +kernel) (by decide +kernel)) (goodIn_sub (fun _ h => List.mem_cons_of_mem _ (List.mem_append_left _ (List.mem_append_right _ h))) (by decide +kernel))) (goodIn_sub (fun _ h => List.mem_cons_of_mem _ (List.mem_append_right _ h)) (by decide +kernel))
set_option maxRecDepth 20000 in
theorem gL_next_X0_next : GoodIn wsL_next (wsV RL 34 RX0 yX0_next wsX0_next) := goodIn_app (goodIn_of _ (by decide +kernel)) ggL_next_X0_next
theorem dL_next_0 : decode cL_next 0 = .ok (.aload_n 3, 1) := by decide +kernel
theorem dL_next_1 : decode cL_next 1 = .ok (.iconst 0, 1) := by decide +kernel
theorem dL_next_2 : decode cL_next 2 = .ok (.aload_n 0, 1) := by decide +kernel
theorem dL_next_3 : decode cL_next 3 = .ok (.iload_n 1, 1) := by decide +kernel
theorem dL_next_4 : decode cL_next 4 = .ok (.iload_n 2, 1) := by decide +kernel
theorem dL_next_5 : decode cL_next 5 = .ok (.invokevirtual 34, 3) := by decide +kernel
theorem dL_next_8 : decode cL_next 8 = .ok (.i2l, 1) := by decide +kernel
theorem dL_next_9 : decode cL_next 9 = .ok (.lastore, 1) := by decide +kernel
theorem dL_next_10 : decode cL_next 10 = .ok (.goto 11, 3) := by decide +kernel
theorem dL_next_13 : decode cL_next 13 = .ok (.astore 4, 2) := by decide +kernel
theorem dL_next_15 : decode cL_next 15 = .ok (.iconst 1, 1) := by decide +kernel
theorem dL_next_16 : decode cL_next 16 = .ok (.ireturn, 1) := by decide +kernel
theorem dL_next_17 : decode cL_next 17 = .ok (.astore 4, 2) := by decide +kernel
theorem dL_next_19 : decode cL_next 19 = .ok (.iconst 2, 1) := by decide +kernel
theorem dL_next_20 : decode cL_next 20 = .ok (.ireturn, 1) := by decide +kernel
theorem dL_next_21 : decode cL_next 21 = .ok (.iconst 0, 1) := by decide +kernel
theorem dL_next_22 : decode cL_next 22 = .ok (.ireturn, 1) := by decide +kernel
set_option maxRecDepth 20000 in
theorem ggL_nearest_X0_nearest : GoodIn wsL_nearest wsX0_nearest := goodIn_ca (goodIn_ca (goodIn_r _ [7, 8, 9, 10, 6, 11, 12, 13, 14, 15, 16, 17, 18, 19, 20, 21, 22, 23, 24, 25, 26, 27, 28, 29, 30, 31, 32, 33, 34, 35, 36, 37, 38, 39, 40, 41, 42, 43, 44, 45, 46, 47, 48, 49, 50, 51, 52, 53, 54, 55, 56, 57, 58] (by decide +kernel) (by decide +kernel)) (goodIn_sub (fun _ h => List.mem_cons_of_mem _ (List.mem_append_left _ (List.mem_append_right _ h))) (by decide +kernel))) (goodIn_sub (fun _ h => List.mem_cons_of_mem _ (List.mem_append_right _ h)) (by decide +kernel))
set_option maxRecDepth 20000 in
theorem gL_nearest_X0_nearest : GoodIn wsL_nearest (wsV RL 37 RX0 yX0_nearest wsX0_nearest) := goodIn_app (goodIn_of _ (by decide +kernel)) ggL_nearest_X0_nearest
theorem dL_nearest_0 : decode cL_nearest 0 = .ok (.aload_n 3, 1) := by decide +kernel
theorem dL_nearest_1 : decode cL_nearest 1 = .ok (.iconst 0, 1) := by decide +kernel
theorem dL_nearest_2 : decode cL_nearest 2 = .ok (.aload_n 0, 1) := by decide +kernel
theorem dL_nearest_3 : decode cL_nearest 3 = .ok (.iload_n 1, 1) := by decide +kernel
theorem dL_nearest_4 : decode cL_nearest 4 = .ok (.iload_n 2, 1) := by decide +kernel
theorem dL_nearest_5 : decode cL_nearest 5 = .ok (.invokevirtual 37, 3) := by decide +kernel
theorem dL_nearest_8 : decode cL_nearest 8 = .ok (.i2l, 1) := by decide +kernel
theorem dL_nearest_9 : decode cL_nearest 9 = .ok (.lastore, 1) := by decide +kernel
theorem dL_nearest_10 : decode cL_nearest 10 = .ok (.goto 11, 3) := by decide +kernel
theorem dL_nearest_13 : decode cL_nearest 13 = .ok (.astore 4, 2) := by decide +kernel
theorem dL_nearest_15 : decode cL_nearest 15 = .ok (.iconst 1, 1) := by decide +kernel
theorem dL_nearest_16 : decode cL_nearest 16 = .ok (.ireturn, 1) := by decide +kernel
theorem dL_nearest_17 : decode cL_nearest 17 = .ok (.astore 4, 2) := by decide +kernel
theorem dL_nearest_19 : decode cL_nearest 19 = .ok (.iconst 2, 1) := by decide +kernel
theorem dL_nearest_20 : decode cL_nearest 20 = .ok (.ireturn, 1) := by decide +kernel
theorem dL_nearest_21 : decode cL_nearest 21 = .ok (.iconst 0, 1) := by decide +kernel
theorem dL_nearest_22 : decode cL_nearest 22 = .ok (.ireturn, 1) := by decide +kernel
set_option maxRecDepth 20000 in
theorem ggL_times_X0_times : GoodIn wsL_times wsX0_times := goodIn_ca (goodIn_ca (goodIn_r _ [7, 8, 9, 10, 6, 11, 12, 13, 14, 15, 16, 17, 18, 19, 20, 21, 22, 23, 24, 25, 26, 27, 28, 29, 30, 31, 32, 33, 34, 35, 36, 37, 38, 39, 40, 41, 42, 43, 44, 45, 46, 47, 48, 49, 50, 51, 52, 53, 54, 55, 56, 57, 58, 59, 60, 61, 62] (by decide +kernel) (by decide +kernel)) (goodIn_sub (fun _ h => List.mem_cons_of_mem _ (List.mem_append_left _ (List.mem_append_right _ h))) (by decide +kernel))) (goodIn_sub (fun _ h => List.mem_cons_of_mem _ (List.mem_append_right _ h)) (by decide +kernel))
set_option maxRecDepth 20000 in
theorem gL_times_X0_times : GoodIn wsL_times (wsV RL 40 RX0 yX0_times wsX0_times) := goodIn_app (goodIn_of _ (by decide +kernel)) ggL_times_X0_times
theorem dL_times_0 : decode cL_times 0 = .ok (.aload 4, 2) := by decide +kernel
theorem dL_times_2 : decode cL_times 2 = .ok (.iconst 0, 1) := by decide +kernel
theorem dL_times_3 : decode cL_times 3 = .ok (.aload_n 0, 1) := by decide +kernel
theorem dL_times_4 : decode cL_times 4 = .ok (.iload_n 1, 1) := by decide +kernel
theorem dL_times_5 : decode cL_times 5 = .ok (.iload_n 2, 1) := by decide +kernel
theorem dL_times_6 : decode cL_times 6 = .ok (.iload_n 3, 1) := by decide +kernel
theorem dL_times_7 : decode cL_times 7 = .ok (.invokevirtual 40, 3) := by decide +kernel
theorem dL_times_10 : decode cL_times 10 = .ok (.i2l, 1) := by decide +kernel
theorem dL_times_11 : decode cL_times 11 = .ok (.lastore, 1) := by decide +kernel
theorem dL_times_12 : decode cL_times 12 = .ok (.goto 11, 3) := by decide +kernel
theorem dL_times_15 : decode cL_times 15 = .ok (.astore 5, 2) := by decide +kernel
theorem dL_times_17 : decode cL_times 17 = .ok (.iconst 1, 1) := by decide +kernel
theorem dL_times_18 : decode cL_times 18 = .ok (.ireturn, 1) := by decide +kernel
theorem dL_times_19 : decode cL_times 19 = .ok (.astore 5, 2) := by decide +kernel
theorem dL_times_21 : decode cL_times 21 = .ok (.iconst 2, 1) := by decide +kernel
theorem dL_times_22 : decode cL_times 22 = .ok (.ireturn, 1) := by decide +kernel
theorem dL_times_23 : decode cL_times 23 = .ok (.iconst 0, 1) := by decide +kernel
theorem dL_times_24 : decode cL_times 24 = .ok (.ireturn, 1) := by decide +kernel
set_option maxRecDepth 20000 in
theorem ggL_heldOn_X0_heldOn : GoodIn wsL_heldOn wsX0_heldOn := goodIn_ca (goodIn_r _ [6, 7, 8, 5, 9, 10, 11, 12, 13, 14, 15, 16, 17, 18, 19, 20, 21, 22, 23, 24, 25, 26, 27, 28, 29, 30, 31, 32, 33, 34, 35, 36, 37, 38, 39, 40, 41, 42, 43, 44, 45, 46, 47, 48, 49, 50, 51, 52, 53, 54, 55, 56, 57, 58, 59] (by decide +kernel) (by decide +kernel)) (goodIn_sub (fun _ h => List.mem_cons_of_mem _ (List.mem_append_right _ h)) (by decide +kernel))
set_option maxRecDepth 20000 in
theorem gL_heldOn_X0_heldOn : GoodIn wsL_heldOn (wsV RL 44 RX0 yX0_heldOn wsX0_heldOn) := goodIn_app (goodIn_of _ (by decide +kernel)) ggL_heldOn_X0_heldOn
theorem dL_heldOn_0 : decode cL_heldOn 0 = .ok (.aload_n 2, 1) := by decide +kernel
theorem dL_heldOn_1 : decode cL_heldOn 1 = .ok (.iconst 0, 1) := by decide +kernel
theorem dL_heldOn_2 : decode cL_heldOn 2 = .ok (.aload_n 0, 1) := by decide +kernel
theorem dL_heldOn_3 : decode cL_heldOn 3 = .ok (.iload_n 1, 1) := by decide +kernel
theorem dL_heldOn_4 : decode cL_heldOn 4 = .ok (.invokevirtual 44, 3) := by decide +kernel
theorem dL_heldOn_7 : decode cL_heldOn 7 = .ok (.i2l, 1) := by decide +kernel
theorem dL_heldOn_8 : decode cL_heldOn 8 = .ok (.lastore, 1) := by decide +kernel
theorem dL_heldOn_9 : decode cL_heldOn 9 = .ok (.goto 6, 3) := by decide +kernel
theorem dL_heldOn_12 : decode cL_heldOn 12 = .ok (.astore_n 3, 1) := by decide +kernel
theorem dL_heldOn_13 : decode cL_heldOn 13 = .ok (.iconst 1, 1) := by decide +kernel
theorem dL_heldOn_14 : decode cL_heldOn 14 = .ok (.ireturn, 1) := by decide +kernel
theorem dL_heldOn_15 : decode cL_heldOn 15 = .ok (.iconst 0, 1) := by decide +kernel
theorem dL_heldOn_16 : decode cL_heldOn 16 = .ok (.ireturn, 1) := by decide +kernel
set_option maxRecDepth 20000 in
theorem ggL_doMeet_X0_doMeet : GoodIn wsL_doMeet wsX0_doMeet := goodIn_ca (goodIn_ca (goodIn_r _ [7, 8, 9, 10, 11, 6, 12, 13, 14, 15, 16, 17, 18, 19, 20, 21, 22, 23, 24, 25, 26, 27, 28, 29, 30, 31, 32, 33, 34, 35, 36, 37, 38, 39, 40, 41, 42, 43, 44, 45, 46, 47, 48, 49, 50, 51, 52, 53, 54, 55, 56, 57, 58, 59, 60, 61, 62, 63, 64, 65, 66, 67, 68, 69, 70, 71, 72, 73, 74, 75, 76, 77, 78, 79, 80] (by decide +kernel) (by decide +kernel)) (goodIn_sub (fun _ h => List.mem_cons_of_mem _ (List.mem_append_left _ (List.mem_append_right _ h))) (by decide +kernel))) (goodIn_sub (fun _ h => List.mem_cons_of_mem _ (List.mem_append_right _ h)) (by decide +kernel))
set_option maxRecDepth 20000 in
theorem gL_doMeet_X0_doMeet : GoodIn wsL_doMeet (wsV RL 48 RX0 yX0_doMeet wsX0_doMeet) := goodIn_app (goodIn_of _ (by decide +kernel)) ggL_doMeet_X0_doMeet
theorem dL_doMeet_0 : decode cL_doMeet 0 = .ok (.aload_n 2, 1) := by decide +kernel
theorem dL_doMeet_1 : decode cL_doMeet 1 = .ok (.iconst 0, 1) := by decide +kernel
theorem dL_doMeet_2 : decode cL_doMeet 2 = .ok (.aload_n 0, 1) := by decide +kernel
theorem dL_doMeet_3 : decode cL_doMeet 3 = .ok (.iload_n 1, 1) := by decide +kernel
theorem dL_doMeet_4 : decode cL_doMeet 4 = .ok (.invokevirtual 48, 3) := by decide +kernel
theorem dL_doMeet_7 : decode cL_doMeet 7 = .ok (.ifCond .eq 7, 3) := by decide +kernel
theorem dL_doMeet_10 : decode cL_doMeet 10 = .ok (.lconst 1, 1) := by decide +kernel
theorem dL_doMeet_11 : decode cL_doMeet 11 = .ok (.goto 4, 3) := by decide +kernel
theorem dL_doMeet_14 : decode cL_doMeet 14 = .ok (.lconst 0, 1) := by decide +kernel
theorem dL_doMeet_15 : decode cL_doMeet 15 = .ok (.lastore, 1) := by decide +kernel
theorem dL_doMeet_16 : decode cL_doMeet 16 = .ok (.goto 9, 3) := by decide +kernel
theorem dL_doMeet_19 : decode cL_doMeet 19 = .ok (.astore_n 3, 1) := by decide +kernel
theorem dL_doMeet_20 : decode cL_doMeet 20 = .ok (.iconst 1, 1) := by decide +kernel
theorem dL_doMeet_21 : decode cL_doMeet 21 = .ok (.ireturn, 1) := by decide +kernel
theorem dL_doMeet_22 : decode cL_doMeet 22 = .ok (.astore_n 3, 1) := by decide +kernel
theorem dL_doMeet_23 : decode cL_doMeet 23 = .ok (.iconst 2, 1) := by decide +kernel
theorem dL_doMeet_24 : decode cL_doMeet 24 = .ok (.ireturn, 1) := by decide +kernel
theorem dL_doMeet_25 : decode cL_doMeet 25 = .ok (.iconst 0, 1) := by decide +kernel
theorem dL_doMeet_26 : decode cL_doMeet 26 = .ok (.ireturn, 1) := by decide +kernel
set_option maxRecDepth 20000 in
theorem ggL_period_X0_period : GoodIn wsL_period wsX0_period := goodIn_ca (goodIn_ca (goodIn_ca (goodIn_r _ [8, 9, 10, 11, 7, 12, 13, 14, 15, 16, 17, 18, 19, 20, 21, 22, 23, 24, 25, 26, 27, 28, 29, 30, 31, 32, 33, 34, 35, 36, 37, 38, 39, 40, 41, 42, 43, 44, 45, 46, 47, 48, 49, 50, 51, 52, 53, 54, 55, 56, 57, 58, 59, 60, 61, 62, 63, 64, 65, 66, 67, 68, 69, 70, 71, 72, 73, 74, 75, 76, 77, 78, 79, 80, 81, 82, 83, 84, 85, 86, 87, 88, 89, 90] (by decide +kernel) (by decide +kernel)) (goodIn_sub (fun _ h => List.mem_cons_of_mem _ (List.mem_append_left _ (List.mem_append_left _ (List.mem_append_right _ h)))) (by decide +kernel))) (goodIn_sub (fun _ h => List.mem_cons_of_mem _ (List.mem_append_left _ (List.mem_append_right _ h))) (by decide +kernel))) (goodIn_sub (fun _ h => List.mem_cons_of_mem _ (List.mem_append_right _ h)) (by decide +kernel))
set_option maxRecDepth 20000 in
theorem gL_period_X0_period : GoodIn wsL_period (wsV RL 52 RX0 yX0_period wsX0_period) := goodIn_app (goodIn_of _ (by decide +kernel)) ggL_period_X0_period
theorem dL_period_0 : decode cL_period 0 = .ok (.aload_n 2, 1) := by decide +kernel
theorem dL_period_1 : decode cL_period 1 = .ok (.iconst 0, 1) := by decide +kernel
theorem dL_period_2 : decode cL_period 2 = .ok (.aload_n 0, 1) := by decide +kernel
theorem dL_period_3 : decode cL_period 3 = .ok (.iload_n 1, 1) := by decide +kernel
theorem dL_period_4 : decode cL_period 4 = .ok (.invokevirtual 52, 3) := by decide +kernel
theorem dL_period_7 : decode cL_period 7 = .ok (.i2l, 1) := by decide +kernel
theorem dL_period_8 : decode cL_period 8 = .ok (.lastore, 1) := by decide +kernel
theorem dL_period_9 : decode cL_period 9 = .ok (.goto 12, 3) := by decide +kernel
theorem dL_period_12 : decode cL_period 12 = .ok (.astore_n 3, 1) := by decide +kernel
theorem dL_period_13 : decode cL_period 13 = .ok (.iconst 1, 1) := by decide +kernel
theorem dL_period_14 : decode cL_period 14 = .ok (.ireturn, 1) := by decide +kernel
theorem dL_period_15 : decode cL_period 15 = .ok (.astore_n 3, 1) := by decide +kernel
theorem dL_period_16 : decode cL_period 16 = .ok (.iconst 2, 1) := by decide +kernel
theorem dL_period_17 : decode cL_period 17 = .ok (.ireturn, 1) := by decide +kernel
theorem dL_period_18 : decode cL_period 18 = .ok (.astore_n 3, 1) := by decide +kernel
theorem dL_period_19 : decode cL_period 19 = .ok (.iconst 3, 1) := by decide +kernel
theorem dL_period_20 : decode cL_period 20 = .ok (.ireturn, 1) := by decide +kernel
theorem dL_period_21 : decode cL_period 21 = .ok (.iconst 0, 1) := by decide +kernel
theorem dL_period_22 : decode cL_period 22 = .ok (.ireturn, 1) := by decide +kernel
set_option maxRecDepth 20000 in
theorem ggL_meeting_X0_meeting : GoodIn wsL_meeting wsX0_meeting := goodIn_ca (goodIn_ca (goodIn_ca (goodIn_r _ [8, 9, 10, 7, 11, 12, 13, 14, 15, 16, 17, 18, 19, 20, 21, 22, 23, 24, 25, 26, 27, 28, 29, 30, 31, 32, 33, 34, 35, 36, 37, 38, 39, 40, 41, 42, 43, 44, 45, 46, 47, 48, 49, 50, 51, 52, 53, 54, 55, 56, 57, 58, 59, 60, 61, 62, 63, 64, 65, 66, 67, 68, 69, 70, 71, 72, 73, 74, 75, 76, 77, 78, 79, 80, 81, 82, 83, 84, 85, 86, 87, 88, 89, 90, 91, 92, 93, 94, 95] (by decide +kernel) (by decide +kernel)) (goodIn_sub (fun _ h => List.mem_cons_of_mem _ (List.mem_append_left _ (List.mem_append_left _ (List.mem_append_right _ h)))) (by decide +kernel))) (goodIn_sub (fun _ h => List.mem_cons_of_mem _ (List.mem_append_left _ (List.mem_append_right _ h))) (by decide +kernel))) (goodIn_sub (fun _ h => List.mem_cons_of_mem _ (List.mem_append_right _ h)) (by decide +kernel))
set_option maxRecDepth 20000 in
theorem gL_meeting_X0_meeting : GoodIn wsL_meeting (wsV RL 55 RX0 yX0_meeting wsX0_meeting) := goodIn_app (goodIn_of _ (by decide +kernel)) ggL_meeting_X0_meeting
theorem dL_meeting_0 : decode cL_meeting 0 = .ok (.aload_n 3, 1) := by decide +kernel
theorem dL_meeting_1 : decode cL_meeting 1 = .ok (.iconst 0, 1) := by decide +kernel
theorem dL_meeting_2 : decode cL_meeting 2 = .ok (.aload_n 0, 1) := by decide +kernel
theorem dL_meeting_3 : decode cL_meeting 3 = .ok (.iload_n 1, 1) := by decide +kernel
theorem dL_meeting_4 : decode cL_meeting 4 = .ok (.iload_n 2, 1) := by decide +kernel
theorem dL_meeting_5 : decode cL_meeting 5 = .ok (.invokevirtual 55, 3) := by decide +kernel
theorem dL_meeting_8 : decode cL_meeting 8 = .ok (.i2l, 1) := by decide +kernel
theorem dL_meeting_9 : decode cL_meeting 9 = .ok (.lastore, 1) := by decide +kernel
theorem dL_meeting_10 : decode cL_meeting 10 = .ok (.goto 15, 3) := by decide +kernel
theorem dL_meeting_13 : decode cL_meeting 13 = .ok (.astore 4, 2) := by decide +kernel
theorem dL_meeting_15 : decode cL_meeting 15 = .ok (.iconst 1, 1) := by decide +kernel
theorem dL_meeting_16 : decode cL_meeting 16 = .ok (.ireturn, 1) := by decide +kernel
theorem dL_meeting_17 : decode cL_meeting 17 = .ok (.astore 4, 2) := by decide +kernel
theorem dL_meeting_19 : decode cL_meeting 19 = .ok (.iconst 2, 1) := by decide +kernel
theorem dL_meeting_20 : decode cL_meeting 20 = .ok (.ireturn, 1) := by decide +kernel
theorem dL_meeting_21 : decode cL_meeting 21 = .ok (.astore 4, 2) := by decide +kernel
theorem dL_meeting_23 : decode cL_meeting 23 = .ok (.iconst 3, 1) := by decide +kernel
theorem dL_meeting_24 : decode cL_meeting 24 = .ok (.ireturn, 1) := by decide +kernel
theorem dL_meeting_25 : decode cL_meeting 25 = .ok (.iconst 0, 1) := by decide +kernel
theorem dL_meeting_26 : decode cL_meeting 26 = .ok (.ireturn, 1) := by decide +kernel
set_option maxRecDepth 20000 in
theorem ggL_lunarMeeting_X0_lunarMeeting : GoodIn wsL_lunarMeeting wsX0_lunarMeeting := goodIn_ca (goodIn_ca (goodIn_ca (goodIn_r _ [8, 9, 10, 11, 7, 12, 13, 14, 15, 16, 17, 18, 19, 20, 21, 22, 23, 24, 25, 26, 27, 28, 29, 30, 31, 32, 33, 34, 35, 36, 37, 38, 39, 40, 41, 42, 43, 44, 45, 46, 47, 48, 49, 50, 51, 52, 53, 54, 55, 56, 57, 58, 59, 60, 61, 62, 63, 64, 65, 66, 67, 68, 69, 70, 71, 72, 73, 74, 75, 76, 77, 78, 79, 80, 81, 82, 83, 84, 85, 86, 87, 88, 89, 90, 91, 92, 93, 94, 95, 96, 97, 98, 99, 100, 101, 102, 103, 104, 105, 106, 107, 108, 109, 110, 111, 112] (by decide +kernel) (by decide +kernel)) (goodIn_sub (fun _ h => List.mem_cons_of_mem _ (List.mem_append_left _ (List.mem_append_left _ (List.mem_append_right _ h)))) (by decide +kernel))) (goodIn_sub (fun _ h => List.mem_cons_of_mem _ (List.mem_append_left _ (List.mem_append_right _ h))) (by decide +kernel))) (goodIn_sub (fun _ h => List.mem_cons_of_mem _ (List.mem_append_right _ h)) (by decide +kernel))
set_option maxRecDepth 20000 in
theorem gL_lunarMeeting_X0_lunarMeeting : GoodIn wsL_lunarMeeting (wsV RL 58 RX0 yX0_lunarMeeting wsX0_lunarMeeting) := goodIn_app (goodIn_of _ (by decide +kernel)) ggL_lunarMeeting_X0_lunarMeeting
theorem dL_lunarMeeting_0 : decode cL_lunarMeeting 0 = .ok (.aload 5, 2) := by decide +kernel
theorem dL_lunarMeeting_2 : decode cL_lunarMeeting 2 = .ok (.iconst 0, 1) := by decide +kernel
theorem dL_lunarMeeting_3 : decode cL_lunarMeeting 3 = .ok (.aload_n 0, 1) := by decide +kernel
theorem dL_lunarMeeting_4 : decode cL_lunarMeeting 4 = .ok (.iload_n 1, 1) := by decide +kernel
theorem dL_lunarMeeting_5 : decode cL_lunarMeeting 5 = .ok (.iload_n 2, 1) := by decide +kernel
theorem dL_lunarMeeting_6 : decode cL_lunarMeeting 6 = .ok (.iload_n 3, 1) := by decide +kernel
theorem dL_lunarMeeting_7 : decode cL_lunarMeeting 7 = .ok (.iload 4, 2) := by decide +kernel
theorem dL_lunarMeeting_9 : decode cL_lunarMeeting 9 = .ok (.invokevirtual 58, 3) := by decide +kernel
theorem dL_lunarMeeting_12 : decode cL_lunarMeeting 12 = .ok (.lastore, 1) := by decide +kernel
theorem dL_lunarMeeting_13 : decode cL_lunarMeeting 13 = .ok (.goto 15, 3) := by decide +kernel
theorem dL_lunarMeeting_16 : decode cL_lunarMeeting 16 = .ok (.astore 6, 2) := by decide +kernel
theorem dL_lunarMeeting_18 : decode cL_lunarMeeting 18 = .ok (.iconst 1, 1) := by decide +kernel
theorem dL_lunarMeeting_19 : decode cL_lunarMeeting 19 = .ok (.ireturn, 1) := by decide +kernel
theorem dL_lunarMeeting_20 : decode cL_lunarMeeting 20 = .ok (.astore 6, 2) := by decide +kernel
theorem dL_lunarMeeting_22 : decode cL_lunarMeeting 22 = .ok (.iconst 2, 1) := by decide +kernel
theorem dL_lunarMeeting_23 : decode cL_lunarMeeting 23 = .ok (.ireturn, 1) := by decide +kernel
theorem dL_lunarMeeting_24 : decode cL_lunarMeeting 24 = .ok (.astore 6, 2) := by decide +kernel
theorem dL_lunarMeeting_26 : decode cL_lunarMeeting 26 = .ok (.iconst 3, 1) := by decide +kernel
theorem dL_lunarMeeting_27 : decode cL_lunarMeeting 27 = .ok (.ireturn, 1) := by decide +kernel
theorem dL_lunarMeeting_28 : decode cL_lunarMeeting 28 = .ok (.iconst 0, 1) := by decide +kernel
theorem dL_lunarMeeting_29 : decode cL_lunarMeeting 29 = .ok (.ireturn, 1) := by decide +kernel
set_option maxRecDepth 20000 in
theorem ggL_best_X0_best : GoodIn wsL_best wsX0_best := goodIn_ca (goodIn_ca (goodIn_r _ [7, 8, 9, 6, 10, 11, 12, 13, 14, 15, 16, 17, 18, 19, 20, 21, 22, 23, 24, 25, 26, 27, 28, 29, 30, 31, 32, 33, 34, 35, 36, 37, 38, 39, 40, 41, 42, 43, 44, 45, 46, 47, 48, 49, 50, 51, 52, 53, 54, 55, 56, 57, 58, 59, 60, 61, 62, 63, 64, 65, 66, 67, 68, 69, 70, 71, 72, 73] (by decide +kernel) (by decide +kernel)) (goodIn_sub (fun _ h => List.mem_cons_of_mem _ (List.mem_append_left _ (List.mem_append_right _ h))) (by decide +kernel))) (goodIn_sub (fun _ h => List.mem_cons_of_mem _ (List.mem_append_right _ h)) (by decide +kernel))
set_option maxRecDepth 20000 in
theorem gL_best_X0_best : GoodIn wsL_best (wsV RL 62 RX0 yX0_best wsX0_best) := goodIn_app (goodIn_of _ (by decide +kernel)) ggL_best_X0_best
theorem dL_best_0 : decode cL_best 0 = .ok (.aload 4, 2) := by decide +kernel
theorem dL_best_2 : decode cL_best 2 = .ok (.iconst 0, 1) := by decide +kernel
theorem dL_best_3 : decode cL_best 3 = .ok (.aload_n 0, 1) := by decide +kernel
theorem dL_best_4 : decode cL_best 4 = .ok (.iload_n 1, 1) := by decide +kernel
theorem dL_best_5 : decode cL_best 5 = .ok (.iload_n 2, 1) := by decide +kernel
theorem dL_best_6 : decode cL_best 6 = .ok (.iload_n 3, 1) := by decide +kernel
theorem dL_best_7 : decode cL_best 7 = .ok (.invokevirtual 62, 3) := by decide +kernel
theorem dL_best_10 : decode cL_best 10 = .ok (.i2l, 1) := by decide +kernel
theorem dL_best_11 : decode cL_best 11 = .ok (.lastore, 1) := by decide +kernel
theorem dL_best_12 : decode cL_best 12 = .ok (.goto 11, 3) := by decide +kernel
theorem dL_best_15 : decode cL_best 15 = .ok (.astore 5, 2) := by decide +kernel
theorem dL_best_17 : decode cL_best 17 = .ok (.iconst 1, 1) := by decide +kernel
theorem dL_best_18 : decode cL_best 18 = .ok (.ireturn, 1) := by decide +kernel
theorem dL_best_19 : decode cL_best 19 = .ok (.astore 5, 2) := by decide +kernel
theorem dL_best_21 : decode cL_best 21 = .ok (.iconst 2, 1) := by decide +kernel
theorem dL_best_22 : decode cL_best 22 = .ok (.ireturn, 1) := by decide +kernel
theorem dL_best_23 : decode cL_best 23 = .ok (.iconst 0, 1) := by decide +kernel
theorem dL_best_24 : decode cL_best 24 = .ok (.ireturn, 1) := by decide +kernel
set_option maxRecDepth 20000 in
theorem ggL_month_X0_month : GoodIn wsL_month wsX0_month := goodIn_ca (goodIn_r _ [6, 7, 8, 9, 5, 10, 11, 12, 13, 14, 15, 16, 17, 18, 19, 20, 21, 22, 23, 24, 25, 26, 27, 28, 29, 30, 31, 32, 33, 34, 35, 36, 37, 38, 39, 40, 41, 42, 43] (by decide +kernel) (by decide +kernel)) (goodIn_sub (fun _ h => List.mem_cons_of_mem _ (List.mem_append_right _ h)) (by decide +kernel))
set_option maxRecDepth 20000 in
theorem gL_month_X0_month : GoodIn wsL_month (wsV RL 65 RX0 yX0_month wsX0_month) := goodIn_app (goodIn_of _ (by decide +kernel)) ggL_month_X0_month
theorem dL_month_0 : decode cL_month 0 = .ok (.aload_n 2, 1) := by decide +kernel
theorem dL_month_1 : decode cL_month 1 = .ok (.iconst 0, 1) := by decide +kernel
theorem dL_month_2 : decode cL_month 2 = .ok (.aload_n 0, 1) := by decide +kernel
theorem dL_month_3 : decode cL_month 3 = .ok (.iload_n 1, 1) := by decide +kernel
theorem dL_month_4 : decode cL_month 4 = .ok (.invokevirtual 65, 3) := by decide +kernel
theorem dL_month_7 : decode cL_month 7 = .ok (.i2l, 1) := by decide +kernel
theorem dL_month_8 : decode cL_month 8 = .ok (.lastore, 1) := by decide +kernel
theorem dL_month_9 : decode cL_month 9 = .ok (.goto 6, 3) := by decide +kernel
theorem dL_month_12 : decode cL_month 12 = .ok (.astore_n 3, 1) := by decide +kernel
theorem dL_month_13 : decode cL_month 13 = .ok (.iconst 1, 1) := by decide +kernel
theorem dL_month_14 : decode cL_month 14 = .ok (.ireturn, 1) := by decide +kernel
theorem dL_month_15 : decode cL_month 15 = .ok (.iconst 0, 1) := by decide +kernel
theorem dL_month_16 : decode cL_month 16 = .ok (.ireturn, 1) := by decide +kernel
set_option maxRecDepth 20000 in
theorem ggL_lunarDay_X0_lunarDay : GoodIn wsL_lunarDay wsX0_lunarDay := goodIn_ca (goodIn_r _ [6, 7, 8, 5, 9, 10, 11, 12, 13, 14, 15, 16, 17, 18, 19, 20, 21, 22, 23, 24, 25, 26, 27, 28, 29, 30, 31, 32, 33, 34, 35, 36, 37, 38, 39, 40, 41, 42, 43, 44, 45, 46, 47, 48, 49, 50, 51, 52, 53] (by decide +kernel) (by decide +kernel)) (goodIn_sub (fun _ h => List.mem_cons_of_mem _ (List.mem_append_right _ h)) (by decide +kernel))
set_option maxRecDepth 20000 in
theorem gL_lunarDay_X0_lunarDay : GoodIn wsL_lunarDay (wsV RL 68 RX0 yX0_lunarDay wsX0_lunarDay) := goodIn_app (goodIn_of _ (by decide +kernel)) ggL_lunarDay_X0_lunarDay
theorem dL_lunarDay_0 : decode cL_lunarDay 0 = .ok (.aload_n 2, 1) := by decide +kernel
theorem dL_lunarDay_1 : decode cL_lunarDay 1 = .ok (.iconst 0, 1) := by decide +kernel
theorem dL_lunarDay_2 : decode cL_lunarDay 2 = .ok (.aload_n 0, 1) := by decide +kernel
theorem dL_lunarDay_3 : decode cL_lunarDay 3 = .ok (.iload_n 1, 1) := by decide +kernel
theorem dL_lunarDay_4 : decode cL_lunarDay 4 = .ok (.invokevirtual 68, 3) := by decide +kernel
theorem dL_lunarDay_7 : decode cL_lunarDay 7 = .ok (.i2l, 1) := by decide +kernel
theorem dL_lunarDay_8 : decode cL_lunarDay 8 = .ok (.lastore, 1) := by decide +kernel
theorem dL_lunarDay_9 : decode cL_lunarDay 9 = .ok (.goto 6, 3) := by decide +kernel
theorem dL_lunarDay_12 : decode cL_lunarDay 12 = .ok (.astore_n 3, 1) := by decide +kernel
theorem dL_lunarDay_13 : decode cL_lunarDay 13 = .ok (.iconst 1, 1) := by decide +kernel
theorem dL_lunarDay_14 : decode cL_lunarDay 14 = .ok (.ireturn, 1) := by decide +kernel
theorem dL_lunarDay_15 : decode cL_lunarDay 15 = .ok (.iconst 0, 1) := by decide +kernel
theorem dL_lunarDay_16 : decode cL_lunarDay 16 = .ok (.ireturn, 1) := by decide +kernel
set_option maxRecDepth 20000 in
theorem ggL_monthBegin_X0_monthBegin : GoodIn wsL_monthBegin wsX0_monthBegin := goodIn_ca (goodIn_r _ [6, 7, 8, 9, 10, 11, 12, 13, 5, 14, 15, 16, 17, 18, 19, 20, 21, 22, 23, 24, 25, 26, 27, 28, 29, 30, 31, 32, 33, 34, 35, 36] (by decide +kernel) (by decide +kernel)) (goodIn_sub (fun _ h => List.mem_cons_of_mem _ (List.mem_append_right _ h)) (by decide +kernel))
set_option maxRecDepth 20000 in
theorem gL_monthBegin_X0_monthBegin : GoodIn wsL_monthBegin (wsV RL 71 RX0 yX0_monthBegin wsX0_monthBegin) := goodIn_app (goodIn_of _ (by decide +kernel)) ggL_monthBegin_X0_monthBegin
theorem dL_monthBegin_0 : decode cL_monthBegin 0 = .ok (.aload_n 2, 1) := by decide +kernel
theorem dL_monthBegin_1 : decode cL_monthBegin 1 = .ok (.iconst 0, 1) := by decide +kernel
theorem dL_monthBegin_2 : decode cL_monthBegin 2 = .ok (.aload_n 0, 1) := by decide +kernel
theorem dL_monthBegin_3 : decode cL_monthBegin 3 = .ok (.iload_n 1, 1) := by decide +kernel
theorem dL_monthBegin_4 : decode cL_monthBegin 4 = .ok (.invokevirtual 71, 3) := by decide +kernel
theorem dL_monthBegin_7 : decode cL_monthBegin 7 = .ok (.i2l, 1) := by decide +kernel
theorem dL_monthBegin_8 : decode cL_monthBegin 8 = .ok (.lastore, 1) := by decide +kernel
theorem dL_monthBegin_9 : decode cL_monthBegin 9 = .ok (.goto 6, 3) := by decide +kernel
theorem dL_monthBegin_12 : decode cL_monthBegin 12 = .ok (.astore_n 3, 1) := by decide +kernel
theorem dL_monthBegin_13 : decode cL_monthBegin 13 = .ok (.iconst 1, 1) := by decide +kernel
theorem dL_monthBegin_14 : decode cL_monthBegin 14 = .ok (.ireturn, 1) := by decide +kernel
theorem dL_monthBegin_15 : decode cL_monthBegin 15 = .ok (.iconst 0, 1) := by decide +kernel
theorem dL_monthBegin_16 : decode cL_monthBegin 16 = .ok (.ireturn, 1) := by decide +kernel
set_option maxRecDepth 20000 in
theorem ggL_year_X0_year : GoodIn wsL_year wsX0_year := goodIn_ca (goodIn_r _ [6, 7, 8, 5, 9, 10, 11, 12, 13, 14, 15, 16, 17, 18, 19, 20, 21, 22, 23, 24, 25, 26, 27, 28, 29, 30, 31, 32, 33, 34, 35, 36, 37, 38, 39, 40, 41, 42, 43, 44] (by decide +kernel) (by decide +kernel)) (goodIn_sub (fun _ h => List.mem_cons_of_mem _ (List.mem_append_right _ h)) (by decide +kernel))
set_option maxRecDepth 20000 in
theorem gL_year_X0_year : GoodIn wsL_year (wsV RL 74 RX0 yX0_year wsX0_year) := goodIn_app (goodIn_of _ (by decide +kernel)) ggL_year_X0_year
theorem dL_year_0 : decode cL_year 0 = .ok (.aload_n 2, 1) := by decide +kernel
theorem dL_year_1 : decode cL_year 1 = .ok (.iconst 0, 1) := by decide +kernel
theorem dL_year_2 : decode cL_year 2 = .ok (.aload_n 0, 1) := by decide +kernel
theorem dL_year_3 : decode cL_year 3 = .ok (.iload_n 1, 1) := by decide +kernel
theorem dL_year_4 : decode cL_year 4 = .ok (.invokevirtual 74, 3) := by decide +kernel
theorem dL_year_7 : decode cL_year 7 = .ok (.i2l, 1) := by decide +kernel
theorem dL_year_8 : decode cL_year 8 = .ok (.lastore, 1) := by decide +kernel
theorem dL_year_9 : decode cL_year 9 = .ok (.goto 6, 3) := by decide +kernel
theorem dL_year_12 : decode cL_year 12 = .ok (.astore_n 3, 1) := by decide +kernel
theorem dL_year_13 : decode cL_year 13 = .ok (.iconst 1, 1) := by decide +kernel
theorem dL_year_14 : decode cL_year 14 = .ok (.ireturn, 1) := by decide +kernel
theorem dL_year_15 : decode cL_year 15 = .ok (.iconst 0, 1) := by decide +kernel
theorem dL_year_16 : decode cL_year 16 = .ok (.ireturn, 1) := by decide +kernel
set_option maxRecDepth 20000 in
theorem ggL_placeInYear_X0_placeInYear : GoodIn wsL_placeInYear wsX0_placeInYear := goodIn_ca (goodIn_r _ [6, 7, 8, 5, 9, 10, 11, 12, 13, 14, 15, 16, 17, 18, 19, 20, 21, 22, 23, 24, 25, 26, 27, 28, 29, 30, 31, 32, 33, 34, 35, 36, 37, 38, 39, 40, 41, 42, 43, 44, 45, 46, 47, 48] (by decide +kernel) (by decide +kernel)) (goodIn_sub (fun _ h => List.mem_cons_of_mem _ (List.mem_append_right _ h)) (by decide +kernel))
set_option maxRecDepth 20000 in
theorem gL_placeInYear_X0_placeInYear : GoodIn wsL_placeInYear (wsV RL 77 RX0 yX0_placeInYear wsX0_placeInYear) := goodIn_app (goodIn_of _ (by decide +kernel)) ggL_placeInYear_X0_placeInYear
theorem dL_placeInYear_0 : decode cL_placeInYear 0 = .ok (.aload_n 2, 1) := by decide +kernel
theorem dL_placeInYear_1 : decode cL_placeInYear 1 = .ok (.iconst 0, 1) := by decide +kernel
theorem dL_placeInYear_2 : decode cL_placeInYear 2 = .ok (.aload_n 0, 1) := by decide +kernel
theorem dL_placeInYear_3 : decode cL_placeInYear 3 = .ok (.iload_n 1, 1) := by decide +kernel
theorem dL_placeInYear_4 : decode cL_placeInYear 4 = .ok (.invokevirtual 77, 3) := by decide +kernel
theorem dL_placeInYear_7 : decode cL_placeInYear 7 = .ok (.i2l, 1) := by decide +kernel
theorem dL_placeInYear_8 : decode cL_placeInYear 8 = .ok (.lastore, 1) := by decide +kernel
theorem dL_placeInYear_9 : decode cL_placeInYear 9 = .ok (.goto 6, 3) := by decide +kernel
theorem dL_placeInYear_12 : decode cL_placeInYear 12 = .ok (.astore_n 3, 1) := by decide +kernel
theorem dL_placeInYear_13 : decode cL_placeInYear 13 = .ok (.iconst 1, 1) := by decide +kernel
theorem dL_placeInYear_14 : decode cL_placeInYear 14 = .ok (.ireturn, 1) := by decide +kernel
theorem dL_placeInYear_15 : decode cL_placeInYear 15 = .ok (.iconst 0, 1) := by decide +kernel
theorem dL_placeInYear_16 : decode cL_placeInYear 16 = .ok (.ireturn, 1) := by decide +kernel
set_option maxRecDepth 20000 in
theorem ggL_isLeap_X0_isLeap : GoodIn wsL_isLeap wsX0_isLeap := goodIn_ca (goodIn_r _ [6, 7, 8, 5, 9, 10, 11, 12, 13, 14, 15, 16, 17, 18, 19, 20, 21, 22, 23, 24, 25, 26, 27, 28, 29, 30, 31, 32, 33, 34, 35, 36, 37, 38, 39, 40, 41] (by decide +kernel) (by decide +kernel)) (goodIn_sub (fun _ h => List.mem_cons_of_mem _ (List.mem_append_right _ h)) (by decide +kernel))
set_option maxRecDepth 20000 in
theorem gL_isLeap_X0_isLeap : GoodIn wsL_isLeap (wsV RL 80 RX0 yX0_isLeap wsX0_isLeap) := goodIn_app (goodIn_of _ (by decide +kernel)) ggL_isLeap_X0_isLeap
theorem dL_isLeap_0 : decode cL_isLeap 0 = .ok (.aload_n 2, 1) := by decide +kernel
theorem dL_isLeap_1 : decode cL_isLeap 1 = .ok (.iconst 0, 1) := by decide +kernel
theorem dL_isLeap_2 : decode cL_isLeap 2 = .ok (.aload_n 0, 1) := by decide +kernel
theorem dL_isLeap_3 : decode cL_isLeap 3 = .ok (.iload_n 1, 1) := by decide +kernel
theorem dL_isLeap_4 : decode cL_isLeap 4 = .ok (.invokevirtual 80, 3) := by decide +kernel
theorem dL_isLeap_7 : decode cL_isLeap 7 = .ok (.ifCond .eq 7, 3) := by decide +kernel
theorem dL_isLeap_10 : decode cL_isLeap 10 = .ok (.lconst 1, 1) := by decide +kernel
theorem dL_isLeap_11 : decode cL_isLeap 11 = .ok (.goto 4, 3) := by decide +kernel
theorem dL_isLeap_14 : decode cL_isLeap 14 = .ok (.lconst 0, 1) := by decide +kernel
theorem dL_isLeap_15 : decode cL_isLeap 15 = .ok (.lastore, 1) := by decide +kernel
theorem dL_isLeap_16 : decode cL_isLeap 16 = .ok (.goto 6, 3) := by decide +kernel
theorem dL_isLeap_19 : decode cL_isLeap 19 = .ok (.astore_n 3, 1) := by decide +kernel
theorem dL_isLeap_20 : decode cL_isLeap 20 = .ok (.iconst 1, 1) := by decide +kernel
theorem dL_isLeap_21 : decode cL_isLeap 21 = .ok (.ireturn, 1) := by decide +kernel
theorem dL_isLeap_22 : decode cL_isLeap 22 = .ok (.iconst 0, 1) := by decide +kernel
theorem dL_isLeap_23 : decode cL_isLeap 23 = .ok (.ireturn, 1) := by decide +kernel
set_option maxRecDepth 20000 in
theorem ggL_dayOf_X0_dayOf : GoodIn wsL_dayOf wsX0_dayOf := goodIn_ca (goodIn_r _ [6, 7, 8, 9, 5, 10, 11, 12, 13, 14, 15, 16, 17, 18, 19, 20, 21, 22, 23, 24, 25, 26, 27, 28, 29, 30, 31, 32, 33, 34, 35, 36, 37, 38, 39, 40, 41, 42, 43, 44, 45, 46, 47, 48, 49, 50, 51, 52] (by decide +kernel) (by decide +kernel)) (goodIn_sub (fun _ h => List.mem_cons_of_mem _ (List.mem_append_right _ h)) (by decide +kernel))
set_option maxRecDepth 20000 in
theorem gL_dayOf_X0_dayOf : GoodIn wsL_dayOf (wsV RL 83 RX0 yX0_dayOf wsX0_dayOf) := goodIn_app (goodIn_of _ (by decide +kernel)) ggL_dayOf_X0_dayOf
theorem dL_dayOf_0 : decode cL_dayOf 0 = .ok (.aload_n 3, 1) := by decide +kernel
theorem dL_dayOf_1 : decode cL_dayOf 1 = .ok (.iconst 0, 1) := by decide +kernel
theorem dL_dayOf_2 : decode cL_dayOf 2 = .ok (.aload_n 0, 1) := by decide +kernel
theorem dL_dayOf_3 : decode cL_dayOf 3 = .ok (.iload_n 1, 1) := by decide +kernel
theorem dL_dayOf_4 : decode cL_dayOf 4 = .ok (.iload_n 2, 1) := by decide +kernel
theorem dL_dayOf_5 : decode cL_dayOf 5 = .ok (.invokevirtual 83, 3) := by decide +kernel
theorem dL_dayOf_8 : decode cL_dayOf 8 = .ok (.i2l, 1) := by decide +kernel
theorem dL_dayOf_9 : decode cL_dayOf 9 = .ok (.lastore, 1) := by decide +kernel
theorem dL_dayOf_10 : decode cL_dayOf 10 = .ok (.goto 7, 3) := by decide +kernel
theorem dL_dayOf_13 : decode cL_dayOf 13 = .ok (.astore 4, 2) := by decide +kernel
theorem dL_dayOf_15 : decode cL_dayOf 15 = .ok (.iconst 1, 1) := by decide +kernel
theorem dL_dayOf_16 : decode cL_dayOf 16 = .ok (.ireturn, 1) := by decide +kernel
theorem dL_dayOf_17 : decode cL_dayOf 17 = .ok (.iconst 0, 1) := by decide +kernel
theorem dL_dayOf_18 : decode cL_dayOf 18 = .ok (.ireturn, 1) := by decide +kernel
set_option maxRecDepth 20000 in
theorem ggL_timesInYear_X0_timesInYear : GoodIn wsL_timesInYear wsX0_timesInYear := goodIn_ca (goodIn_ca (goodIn_r _ [7, 8, 9, 10, 6, 11, 12, 13, 14, 15, 16, 17, 18, 19, 20, 21, 22, 23, 24, 25, 26, 27, 28, 29, 30, 31, 32, 33, 34, 35, 36, 37, 38, 39, 40, 41, 42, 43, 44, 45, 46, 47, 48, 49, 50, 51, 52, 53, 54, 55, 56, 57, 58, 59, 60, 61, 62, 63, 64, 65, 66, 67, 68] (by decide +kernel) (by decide +kernel)) (goodIn_sub (fun _ h => List.mem_cons_of_mem _ (List.mem_append_left _ (List.mem_append_right _ h))) (by decide +kernel))) (goodIn_sub (fun _ h => List.mem_cons_of_mem _ (List.mem_append_right _ h)) (by decide +kernel))
set_option maxRecDepth 20000 in
theorem gL_timesInYear_X0_timesInYear : GoodIn wsL_timesInYear (wsV RL 86 RX0 yX0_timesInYear wsX0_timesInYear) := goodIn_app (goodIn_of _ (by decide +kernel)) ggL_timesInYear_X0_timesInYear
theorem dL_timesInYear_0 : decode cL_timesInYear 0 = .ok (.aload_n 3, 1) := by decide +kernel
theorem dL_timesInYear_1 : decode cL_timesInYear 1 = .ok (.iconst 0, 1) := by decide +kernel
theorem dL_timesInYear_2 : decode cL_timesInYear 2 = .ok (.aload_n 0, 1) := by decide +kernel
theorem dL_timesInYear_3 : decode cL_timesInYear 3 = .ok (.iload_n 1, 1) := by decide +kernel
theorem dL_timesInYear_4 : decode cL_timesInYear 4 = .ok (.iload_n 2, 1) := by decide +kernel
theorem dL_timesInYear_5 : decode cL_timesInYear 5 = .ok (.invokevirtual 86, 3) := by decide +kernel
theorem dL_timesInYear_8 : decode cL_timesInYear 8 = .ok (.i2l, 1) := by decide +kernel
theorem dL_timesInYear_9 : decode cL_timesInYear 9 = .ok (.lastore, 1) := by decide +kernel
theorem dL_timesInYear_10 : decode cL_timesInYear 10 = .ok (.goto 11, 3) := by decide +kernel
theorem dL_timesInYear_13 : decode cL_timesInYear 13 = .ok (.astore 4, 2) := by decide +kernel
theorem dL_timesInYear_15 : decode cL_timesInYear 15 = .ok (.iconst 1, 1) := by decide +kernel
theorem dL_timesInYear_16 : decode cL_timesInYear 16 = .ok (.ireturn, 1) := by decide +kernel
theorem dL_timesInYear_17 : decode cL_timesInYear 17 = .ok (.astore 4, 2) := by decide +kernel
theorem dL_timesInYear_19 : decode cL_timesInYear 19 = .ok (.iconst 2, 1) := by decide +kernel
theorem dL_timesInYear_20 : decode cL_timesInYear 20 = .ok (.ireturn, 1) := by decide +kernel
theorem dL_timesInYear_21 : decode cL_timesInYear 21 = .ok (.iconst 0, 1) := by decide +kernel
theorem dL_timesInYear_22 : decode cL_timesInYear 22 = .ok (.ireturn, 1) := by decide +kernel
