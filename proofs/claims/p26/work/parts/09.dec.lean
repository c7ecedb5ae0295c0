set_option maxRecDepth 20000 in
theorem ggL_law_X0_init : GoodIn wsL_law wsX0_init := goodIn_r _ [8, 9, 10, 11, 12, 13, 14, 15, 16, 17, 18, 19, 20, 21, 22, 283, 284, 285, 286, 287, 288, 289, 290, 291, 292] (by decide +kernel) (by decide +kernel)
set_option maxRecDepth 20000 in
theorem gL_law_X0_init : GoodIn wsL_law (wsX0_init) := ggL_law_X0_init
set_option maxRecDepth 20000 in
theorem ggL_law_L_cell : GoodIn wsL_law wsL_cell := goodIn_r _ [26] (by decide +kernel) (by decide +kernel)
set_option maxRecDepth 20000 in
theorem gL_law_L_cell : GoodIn wsL_law (va_wsS RL 122 yL_cell wsL_cell) := goodIn_app (goodIn_of _ (by decide +kernel)) ggL_law_L_cell
set_option maxRecDepth 20000 in
theorem ggL_law_L_act : GoodIn wsL_law wsL_act := goodIn_ca (goodIn_ca (goodIn_ca (goodIn_r _ [29, 30, 31, 25, 32, 33, 34, 35, 36, 37, 38, 5, 39, 40, 41, 2, 42, 43, 44, 15, 13, 14, 45, 46, 47, 48, 49, 50, 51, 52, 53, 54, 55, 56, 57, 58, 59, 60, 61, 62, 63, 64, 65, 66, 67, 68, 69, 70, 71, 72, 73, 74, 75, 76, 77, 78, 79, 80, 81, 82, 83, 84, 85, 86, 87, 88, 89, 90, 91, 92, 93, 94, 95, 96, 16, 17, 18, 97, 98, 99, 100, 101, 102, 103, 19, 20, 21, 22, 283, 284, 285, 286, 287, 288, 289, 290, 291, 292] (by decide +kernel) (by decide +kernel)) (goodIn_sub (fun _ h => List.mem_append_left _ (List.mem_append_left _ (List.mem_append_right _ h))) (by decide +kernel))) (goodIn_sub (fun _ h => List.mem_append_left _ (List.mem_append_right _ h)) (by decide +kernel))) (goodIn_sub (fun _ h => List.mem_append_right _ h) (by decide +kernel))
set_option maxRecDepth 20000 in
theorem gL_law_L_act : GoodIn wsL_law (va_wsS RL 126 yL_act wsL_act) := goodIn_app (goodIn_of _ (by decide +kernel)) ggL_law_L_act
set_option maxRecDepth 20000 in
theorem ggL_law_L_low : GoodIn wsL_law wsL_low := goodIn_r _ [32, 33] (by decide +kernel) (by decide +kernel)
set_option maxRecDepth 20000 in
theorem gL_law_L_low : GoodIn wsL_law (va_wsS RL 44 yL_low wsL_low) := goodIn_app (goodIn_of _ (by decide +kernel)) ggL_law_L_low
set_option maxRecDepth 20000 in
theorem ggL_law_L_areAlike : GoodIn wsL_law wsL_areAlike := goodIn_ca (goodIn_r _ [106, 57, 58, 59, 2, 60, 15, 107, 108, 109, 110, 111, 112, 113, 114, 115, 45, 46, 47, 48, 49, 50, 51, 52, 116, 117, 118, 119, 120, 121, 122, 123, 79, 80, 81, 82, 13, 53, 54, 55, 56, 14, 83, 84, 85, 86, 87, 88, 89, 75, 76, 77, 78, 124, 125, 126, 127, 16, 128, 129, 130, 131, 18, 17, 132, 133, 134, 135, 136, 137, 138, 139, 140, 141, 142, 143, 144, 145, 146, 147, 148, 149, 150, 151, 152, 153, 22, 21, 19, 20, 154, 155, 156, 157, 158, 159, 160, 161, 283, 284, 285, 286, 287, 288, 289, 290, 291, 292] (by decide +kernel) (by decide +kernel)) (goodIn_sub (fun _ h => List.mem_append_left _ (List.mem_append_right _ h)) (by decide +kernel))
set_option maxRecDepth 20000 in
theorem gL_law_L_areAlike : GoodIn wsL_law (va_wsS RL 131 yL_areAlike wsL_areAlike) := goodIn_app (goodIn_of _ (by decide +kernel)) ggL_law_L_areAlike
set_option maxRecDepth 20000 in
theorem ggL_law_L_isDaySo : GoodIn wsL_law wsL_isDaySo := goodIn_ca (goodIn_ca (goodIn_r _ [164, 165, 146, 147, 148, 2, 149, 111, 112, 113, 114, 115, 45, 46, 47, 48, 49, 50, 51, 52, 150, 151, 152, 153, 22, 21, 19, 20, 132, 133, 134, 135, 136, 88, 137, 166, 167, 168, 169, 170, 171, 172, 173, 174, 175, 176, 83, 84, 85, 86, 87, 89, 158, 159, 160, 161, 154, 155, 156, 157, 177, 178, 25, 179, 37, 180, 181, 182, 183, 57, 58, 59, 60, 15, 184, 185, 186, 187, 69, 70, 71, 72, 73, 74, 188, 189, 190, 191, 79, 80, 81, 82, 13, 53, 54, 55, 56, 14, 75, 76, 77, 78, 192, 193, 194, 195, 283, 284, 285, 286, 287, 288, 289, 290, 291, 292] (by decide +kernel) (by decide +kernel)) (goodIn_sub (fun _ h => List.mem_append_left _ (List.mem_append_right _ h)) (by decide +kernel))) (goodIn_sub (fun _ h => List.mem_append_right _ h) (by decide +kernel))
set_option maxRecDepth 20000 in
theorem gL_law_L_isDaySo : GoodIn wsL_law (va_wsS RL 135 yL_isDaySo wsL_isDaySo) := goodIn_app (goodIn_of _ (by decide +kernel)) ggL_law_L_isDaySo
set_option maxRecDepth 20000 in
theorem ggL_law_L_isMonthSo : GoodIn wsL_law wsL_isMonthSo := goodIn_ca (goodIn_r _ [198, 5, 199, 124, 125, 126, 2, 127, 16, 111, 112, 113, 114, 115, 45, 46, 47, 48, 49, 50, 51, 52, 128, 129, 130, 131, 18, 17, 132, 133, 134, 135, 136, 88, 137, 200, 201, 202, 203, 204, 205, 138, 139, 140, 141, 142, 143, 144, 145, 83, 84, 85, 86, 87, 89, 283, 284, 285, 286, 287, 288, 289, 290, 291, 292] (by decide +kernel) (by decide +kernel)) (goodIn_sub (fun _ h => List.mem_append_left _ (List.mem_append_right _ h)) (by decide +kernel))
set_option maxRecDepth 20000 in
theorem gL_law_L_isMonthSo : GoodIn wsL_law (va_wsS RL 139 yL_isMonthSo wsL_isMonthSo) := goodIn_app (goodIn_of _ (by decide +kernel)) ggL_law_L_isMonthSo
set_option maxRecDepth 20000 in
theorem ggL_law_X0_markets : GoodIn wsL_law wsX0_markets := goodIn_r _ [60, 15, 283, 284, 285, 286, 287, 288, 289, 290, 291, 292] (by decide +kernel) (by decide +kernel)
set_option maxRecDepth 20000 in
theorem gL_law_X0_markets : GoodIn wsL_law (wsV RL 52 RX0 yX0_markets wsX0_markets) := goodIn_app (goodIn_of _ (by decide +kernel)) ggL_law_X0_markets
set_option maxRecDepth 20000 in
theorem ggL_law_L_isMarketSo : GoodIn wsL_law wsL_isMarketSo := goodIn_ca (goodIn_ca (goodIn_r _ [208, 209, 210, 211, 2, 212, 69, 70, 71, 72, 73, 74, 15, 45, 46, 47, 111, 112, 113, 114, 115, 48, 49, 50, 51, 52, 75, 76, 77, 78, 14, 53, 54, 55, 56, 13, 79, 80, 81, 82, 83, 84, 85, 86, 87, 88, 89, 213, 214, 215, 216, 217, 218, 219, 220, 120, 121, 122, 123, 192, 193, 194, 195, 188, 189, 190, 191, 132, 133, 134, 135, 136, 137, 107, 108, 109, 110, 116, 117, 118, 119, 283, 284, 285, 286, 287, 288, 289, 290, 291, 292] (by decide +kernel) (by decide +kernel)) (goodIn_sub (fun _ h => List.mem_append_right _ h) (by decide +kernel))) (goodIn_sub (fun _ h => List.mem_append_left _ (List.mem_append_right _ h)) (by decide +kernel))
set_option maxRecDepth 20000 in
theorem gL_law_L_isMarketSo : GoodIn wsL_law (va_wsS RL 142 yL_isMarketSo wsL_isMarketSo) := goodIn_app (goodIn_of _ (by decide +kernel)) ggL_law_L_isMarketSo
set_option maxRecDepth 20000 in
theorem ggL_law_L_isMeetingSo : GoodIn wsL_law wsL_isMeetingSo := goodIn_ca (goodIn_ca (goodIn_ca (goodIn_r _ [223, 224, 165, 225, 226, 227, 228, 25, 229, 37, 64, 38, 5, 230, 231, 232, 2, 233, 234, 235, 236, 237, 238, 239, 240, 241, 242, 243, 244, 45, 46, 47, 48, 49, 50, 51, 52, 245, 246, 247, 248, 73, 74, 15, 249, 250, 251, 252, 253, 254, 255, 256, 257, 79, 80, 81, 82, 13, 53, 54, 55, 56, 14, 120, 121, 122, 123, 83, 84, 85, 86, 87, 88, 89, 75, 76, 77, 78, 258, 259, 260, 261, 262, 263, 43, 44, 264, 265, 266, 267, 268, 269, 270, 271, 272, 273, 274, 111, 112, 113, 114, 115, 275, 276, 277, 278, 107, 108, 109, 110, 116, 117, 118, 119, 279, 280, 281, 282, 142, 143, 144, 145, 16, 17, 128, 129, 130, 131, 18, 132, 133, 134, 135, 136, 137, 283, 284, 285, 286, 287, 288, 289, 290, 291, 292] (by decide +kernel) (by decide +kernel)) (goodIn_sub (fun _ h => List.mem_append_left _ (List.mem_append_right _ h)) (by decide +kernel))) (goodIn_sub (fun _ h => List.mem_append_right _ h) (by decide +kernel))) (goodIn_sub (fun _ h => List.mem_append_left _ (List.mem_append_left _ (List.mem_append_right _ h))) (by decide +kernel))
set_option maxRecDepth 20000 in
theorem gL_law_L_isMeetingSo : GoodIn wsL_law (va_wsS RL 146 yL_isMeetingSo wsL_isMeetingSo) := goodIn_app (goodIn_of _ (by decide +kernel)) ggL_law_L_isMeetingSo
theorem dL_law_0 : decode cL_law 0 = .ok (.new 9, 3) := by decide +kernel
theorem dL_law_3 : decode cL_law 3 = .ok (.dup, 1) := by decide +kernel
theorem dL_law_4 : decode cL_law 4 = .ok (.invokespecial 121, 3) := by decide +kernel
theorem dL_law_7 : decode cL_law 7 = .ok (.astore_n 1, 1) := by decide +kernel
theorem dL_law_8 : decode cL_law 8 = .ok (.new 9, 3) := by decide +kernel
theorem dL_law_11 : decode cL_law 11 = .ok (.dup, 1) := by decide +kernel
theorem dL_law_12 : decode cL_law 12 = .ok (.invokespecial 121, 3) := by decide +kernel
theorem dL_law_15 : decode cL_law 15 = .ok (.astore_n 2, 1) := by decide +kernel
theorem dL_law_16 : decode cL_law 16 = .ok (.iconst 0, 1) := by decide +kernel
theorem dL_law_17 : decode cL_law 17 = .ok (.istore_n 3, 1) := by decide +kernel
theorem dL_law_18 : decode cL_law 18 = .ok (.iload_n 3, 1) := by decide +kernel
theorem dL_law_19 : decode cL_law 19 = .ok (.bipush 40, 2) := by decide +kernel
theorem dL_law_21 : decode cL_law 21 = .ok (.if_icmp .ge 208, 3) := by decide +kernel
theorem dL_law_24 : decode cL_law 24 = .ok (.aload_n 0, 1) := by decide +kernel
theorem dL_law_25 : decode cL_law 25 = .ok (.iload_n 3, 1) := by decide +kernel
theorem dL_law_26 : decode cL_law 26 = .ok (.invokestatic 122, 3) := by decide +kernel
theorem dL_law_29 : decode cL_law 29 = .ok (.istore 4, 2) := by decide +kernel
theorem dL_law_31 : decode cL_law 31 = .ok (.aload_n 1, 1) := by decide +kernel
theorem dL_law_32 : decode cL_law 32 = .ok (.iload 4, 2) := by decide +kernel
theorem dL_law_34 : decode cL_law 34 = .ok (.invokestatic 126, 3) := by decide +kernel
theorem dL_law_37 : decode cL_law 37 = .ok (.istore 5, 2) := by decide +kernel
theorem dL_law_39 : decode cL_law 39 = .ok (.iload 4, 2) := by decide +kernel
theorem dL_law_41 : decode cL_law 41 = .ok (.iconst 3, 1) := by decide +kernel
theorem dL_law_42 : decode cL_law 42 = .ok (.ishr, 1) := by decide +kernel
theorem dL_law_43 : decode cL_law 43 = .ok (.ldc 129, 2) := by decide +kernel
theorem dL_law_45 : decode cL_law 45 = .ok (.invokestatic 44, 3) := by decide +kernel
theorem dL_law_48 : decode cL_law 48 = .ok (.ldc 130, 2) := by decide +kernel
theorem dL_law_50 : decode cL_law 50 = .ok (.isub, 1) := by decide +kernel
theorem dL_law_51 : decode cL_law 51 = .ok (.istore 6, 2) := by decide +kernel
theorem dL_law_53 : decode cL_law 53 = .ok (.iload 5, 2) := by decide +kernel
theorem dL_law_55 : decode cL_law 55 = .ok (.ldc 16, 2) := by decide +kernel
theorem dL_law_57 : decode cL_law 57 = .ok (.if_icmp .eq 14, 3) := by decide +kernel
theorem dL_law_60 : decode cL_law 60 = .ok (.aload_n 2, 1) := by decide +kernel
theorem dL_law_61 : decode cL_law 61 = .ok (.iload 4, 2) := by decide +kernel
theorem dL_law_63 : decode cL_law 63 = .ok (.invokestatic 126, 3) := by decide +kernel
theorem dL_law_66 : decode cL_law 66 = .ok (.iload 5, 2) := by decide +kernel
theorem dL_law_68 : decode cL_law 68 = .ok (.if_icmp .ne 75, 3) := by decide +kernel
theorem dL_law_71 : decode cL_law 71 = .ok (.aload_n 1, 1) := by decide +kernel
theorem dL_law_72 : decode cL_law 72 = .ok (.aload_n 2, 1) := by decide +kernel
