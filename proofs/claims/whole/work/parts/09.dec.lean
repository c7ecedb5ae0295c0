set_option maxRecDepth 20000 in
theorem ggL_law_X0_init : GoodIn wsL_law wsX0_init := goodIn_r _ [9, 10, 11, 12, 13, 14, 15, 16, 17, 18, 19, 20, 21, 22, 23, 512, 513, 514, 515, 516, 517, 518, 519, 520, 521] (by decide +kernel) (by decide +kernel)
set_option maxRecDepth 20000 in
theorem gL_law_X0_init : GoodIn wsL_law (wsX0_init) := ggL_law_X0_init
set_option maxRecDepth 20000 in
theorem ggL_law_X1_init : GoodIn wsL_law wsX1_init := goodIn_r _ [26, 27, 11, 12, 13, 28, 29, 30, 31, 32, 33, 34, 522, 523, 524, 525, 526, 527, 528, 529, 530, 531, 532, 533, 534] (by decide +kernel) (by decide +kernel)
set_option maxRecDepth 20000 in
theorem gL_law_X1_init : GoodIn wsL_law (wsX1_init) := ggL_law_X1_init
set_option maxRecDepth 20000 in
theorem ggL_law_L_addMarket : GoodIn wsL_law wsL_addMarket := goodIn_ca (goodIn_ca (goodIn_r _ [38, 39, 40, 41, 42, 43, 2, 44, 45, 46, 16, 14, 15, 47, 48, 49, 50, 51, 52, 53, 54, 55, 56, 57, 58, 512, 513, 514, 515, 516, 517, 518, 519, 520, 521] (by decide +kernel) (by decide +kernel)) (goodIn_sub (fun _ h => List.mem_append_left _ (List.mem_append_left _ (List.mem_append_right _ h))) (by decide +kernel))) (goodIn_sub (fun _ h => List.mem_append_left _ (List.mem_append_right _ h)) (by decide +kernel))
set_option maxRecDepth 20000 in
theorem gL_law_L_addMarket : GoodIn wsL_law (va_wsS RL 93 yL_addMarket wsL_addMarket) := goodIn_app (goodIn_of _ (by decide +kernel)) ggL_law_L_addMarket
set_option maxRecDepth 20000 in
theorem ggL_law_X1_addMarket : GoodIn wsL_law wsX1_addMarket := goodIn_r _ [62, 63, 64, 28, 29, 65, 66, 5, 67, 68, 69, 70, 71, 72, 522, 523, 524, 525, 526, 527, 528, 529, 530, 531, 532, 533, 534] (by decide +kernel) (by decide +kernel)
set_option maxRecDepth 20000 in
theorem gL_law_X1_addMarket : GoodIn wsL_law (wsV RL 98 RX1 yX1_addMarket wsX1_addMarket) := goodIn_app (goodIn_of _ (by decide +kernel)) ggL_law_X1_addMarket
set_option maxRecDepth 20000 in
theorem ggL_law_X1_thrown : GoodIn wsL_law wsX1_thrown := goodIn_r _ [76, 72, 522, 523, 524, 525, 526, 527, 528, 529, 530, 531, 532, 533, 534] (by decide +kernel) (by decide +kernel)
set_option maxRecDepth 20000 in
theorem gL_law_X1_thrown : GoodIn wsL_law (wsV RL 99 RX1 yX1_thrown wsX1_thrown) := goodIn_app (goodIn_of _ (by decide +kernel)) ggL_law_X1_thrown
set_option maxRecDepth 20000 in
theorem ggL_law_L_shift : GoodIn wsL_law wsL_shift := goodIn_ca (goodIn_ca (goodIn_r _ [79, 80, 39, 81, 82, 83, 2, 84, 15, 85, 86, 87, 88, 89, 90, 16, 47, 48, 49, 50, 51, 52, 53, 54, 91, 92, 93, 94, 55, 56, 57, 58, 14, 95, 96, 97, 98, 99, 100, 101, 102, 103, 104, 105, 512, 513, 514, 515, 516, 517, 518, 519, 520, 521] (by decide +kernel) (by decide +kernel)) (goodIn_sub (fun _ h => List.mem_append_right _ h) (by decide +kernel))) (goodIn_sub (fun _ h => List.mem_append_left _ (List.mem_append_right _ h)) (by decide +kernel))
set_option maxRecDepth 20000 in
theorem gL_law_L_shift : GoodIn wsL_law (va_wsS RL 103 yL_shift wsL_shift) := goodIn_app (goodIn_of _ (by decide +kernel)) ggL_law_L_shift
set_option maxRecDepth 20000 in
theorem ggL_law_X1_shift : GoodIn wsL_law wsX1_shift := goodIn_r _ [109, 110, 63, 29, 28, 111, 112, 113, 5, 114, 64, 65, 66, 67, 68, 69, 70, 71, 72, 115, 116, 117, 522, 523, 524, 525, 526, 527, 528, 529, 530, 531, 532, 533, 534] (by decide +kernel) (by decide +kernel)
set_option maxRecDepth 20000 in
theorem gL_law_X1_shift : GoodIn wsL_law (wsV RL 105 RX1 yX1_shift wsX1_shift) := goodIn_app (goodIn_of _ (by decide +kernel)) ggL_law_X1_shift
set_option maxRecDepth 20000 in
theorem ggL_law_L_setMoon : GoodIn wsL_law wsL_setMoon := goodIn_ca (goodIn_r _ [120, 39, 121, 122, 123, 2, 124, 17, 18, 19, 47, 48, 49, 50, 51, 52, 53, 54, 512, 513, 514, 515, 516, 517, 518, 519, 520, 521] (by decide +kernel) (by decide +kernel)) (goodIn_sub (fun _ h => List.mem_append_left _ (List.mem_append_right _ h)) (by decide +kernel))
set_option maxRecDepth 20000 in
theorem gL_law_L_setMoon : GoodIn wsL_law (va_wsS RL 106 yL_setMoon wsL_setMoon) := goodIn_app (goodIn_of _ (by decide +kernel)) ggL_law_L_setMoon
set_option maxRecDepth 20000 in
theorem ggL_law_X1_setMoon : GoodIn wsL_law wsX1_setMoon := goodIn_r _ [128, 129, 130, 131, 132, 30, 31, 133, 65, 66, 5, 67, 68, 69, 70, 71, 72, 522, 523, 524, 525, 526, 527, 528, 529, 530, 531, 532, 533, 534] (by decide +kernel) (by decide +kernel)
set_option maxRecDepth 20000 in
theorem gL_law_X1_setMoon : GoodIn wsL_law (wsV RL 109 RX1 yX1_setMoon wsX1_setMoon) := goodIn_app (goodIn_of _ (by decide +kernel)) ggL_law_X1_setMoon
set_option maxRecDepth 20000 in
theorem ggL_law_L_setYear : GoodIn wsL_law wsL_setYear := goodIn_ca (goodIn_r _ [136, 39, 137, 138, 139, 2, 140, 20, 21, 22, 23, 47, 48, 49, 50, 51, 52, 53, 54, 512, 513, 514, 515, 516, 517, 518, 519, 520, 521] (by decide +kernel) (by decide +kernel)) (goodIn_sub (fun _ h => List.mem_append_left _ (List.mem_append_right _ h)) (by decide +kernel))
set_option maxRecDepth 20000 in
theorem gL_law_L_setYear : GoodIn wsL_law (va_wsS RL 110 yL_setYear wsL_setYear) := goodIn_app (goodIn_of _ (by decide +kernel)) ggL_law_L_setYear
set_option maxRecDepth 20000 in
theorem ggL_law_X1_setYear : GoodIn wsL_law wsX1_setYear := goodIn_r _ [144, 129, 145, 146, 32, 33, 147, 34, 65, 66, 5, 67, 68, 69, 70, 71, 72, 522, 523, 524, 525, 526, 527, 528, 529, 530, 531, 532, 533, 534] (by decide +kernel) (by decide +kernel)
set_option maxRecDepth 20000 in
theorem gL_law_X1_setYear : GoodIn wsL_law (wsV RL 113 RX1 yX1_setYear wsX1_setYear) := goodIn_app (goodIn_of _ (by decide +kernel)) ggL_law_X1_setYear
set_option maxRecDepth 20000 in
theorem ggL_law_X0_markets : GoodIn wsL_law wsX0_markets := goodIn_r _ [151, 16, 512, 513, 514, 515, 516, 517, 518, 519, 520, 521] (by decide +kernel) (by decide +kernel)
set_option maxRecDepth 20000 in
theorem gL_law_X0_markets : GoodIn wsL_law (wsV RL 114 RX0 yX0_markets wsX0_markets) := goodIn_app (goodIn_of _ (by decide +kernel)) ggL_law_X0_markets
set_option maxRecDepth 20000 in
theorem ggL_law_X1_markets : GoodIn wsL_law wsX1_markets := goodIn_r _ [155, 72, 64, 522, 523, 524, 525, 526, 527, 528, 529, 530, 531, 532, 533, 534] (by decide +kernel) (by decide +kernel)
set_option maxRecDepth 20000 in
theorem gL_law_X1_markets : GoodIn wsL_law (wsV RL 117 RX1 yX1_markets wsX1_markets) := goodIn_app (goodIn_of _ (by decide +kernel)) ggL_law_X1_markets
set_option maxRecDepth 20000 in
theorem ggL_law_L_isHeld : GoodIn wsL_law wsL_isHeld := goodIn_ca (goodIn_ca (goodIn_r _ [158, 80, 39, 159, 160, 161, 2, 162, 85, 86, 87, 88, 89, 90, 16, 47, 48, 49, 163, 164, 165, 166, 167, 50, 51, 52, 53, 54, 168, 169, 170, 171, 95, 96, 97, 98, 14, 55, 56, 57, 58, 15, 99, 100, 101, 102, 103, 104, 105, 91, 92, 93, 94, 512, 513, 514, 515, 516, 517, 518, 519, 520, 521] (by decide +kernel) (by decide +kernel)) (goodIn_sub (fun _ h => List.mem_append_right _ h) (by decide +kernel))) (goodIn_sub (fun _ h => List.mem_append_left _ (List.mem_append_right _ h)) (by decide +kernel))
set_option maxRecDepth 20000 in
theorem gL_law_L_isHeld : GoodIn wsL_law (va_wsS RL 118 yL_isHeld wsL_isHeld) := goodIn_app (goodIn_of _ (by decide +kernel)) ggL_law_L_isHeld
set_option maxRecDepth 20000 in
theorem ggL_law_X1_isHeld : GoodIn wsL_law wsX1_isHeld := goodIn_r _ [175, 111, 112, 113, 5, 114, 64, 65, 66, 67, 176, 177, 178, 179, 180, 68, 69, 70, 71, 72, 181, 182, 183, 184, 28, 29, 115, 116, 117, 522, 523, 524, 525, 526, 527, 528, 529, 530, 531, 532, 533, 534] (by decide +kernel) (by decide +kernel)
set_option maxRecDepth 20000 in
theorem gL_law_X1_isHeld : GoodIn wsL_law (wsV RL 120 RX1 yX1_isHeld wsX1_isHeld) := goodIn_app (goodIn_of _ (by decide +kernel)) ggL_law_X1_isHeld
set_option maxRecDepth 20000 in
theorem ggL_law_L_next : GoodIn wsL_law wsL_next := goodIn_ca (goodIn_ca (goodIn_r _ [187, 80, 39, 188, 189, 190, 2, 191, 85, 86, 87, 88, 89, 90, 16, 47, 48, 49, 163, 164, 165, 166, 167, 50, 51, 52, 53, 54, 91, 92, 93, 94, 15, 55, 56, 57, 58, 14, 95, 96, 97, 98, 99, 100, 101, 102, 103, 104, 105, 512, 513, 514, 515, 516, 517, 518, 519, 520, 521] (by decide +kernel) (by decide +kernel)) (goodIn_sub (fun _ h => List.mem_append_right _ h) (by decide +kernel))) (goodIn_sub (fun _ h => List.mem_append_left _ (List.mem_append_right _ h)) (by decide +kernel))
set_option maxRecDepth 20000 in
theorem gL_law_L_next : GoodIn wsL_law (va_wsS RL 121 yL_next wsL_next) := goodIn_app (goodIn_of _ (by decide +kernel)) ggL_law_L_next
set_option maxRecDepth 20000 in
theorem ggL_law_X1_next : GoodIn wsL_law wsX1_next := goodIn_r _ [195, 111, 112, 113, 5, 114, 64, 65, 66, 67, 176, 177, 178, 179, 180, 68, 69, 70, 71, 72, 196, 197, 198, 199, 181, 182, 183, 184, 28, 29, 115, 116, 117, 522, 523, 524, 525, 526, 527, 528, 529, 530, 531, 532, 533, 534] (by decide +kernel) (by decide +kernel)
set_option maxRecDepth 20000 in
theorem gL_law_X1_next : GoodIn wsL_law (wsV RL 123 RX1 yX1_next wsX1_next) := goodIn_app (goodIn_of _ (by decide +kernel)) ggL_law_X1_next
set_option maxRecDepth 20000 in
theorem ggL_law_L_nearest : GoodIn wsL_law wsL_nearest := goodIn_ca (goodIn_ca (goodIn_r _ [202, 80, 39, 203, 204, 205, 2, 206, 85, 86, 87, 88, 89, 90, 16, 47, 48, 49, 163, 164, 165, 166, 167, 50, 51, 52, 53, 54, 95, 96, 97, 98, 14, 55, 56, 57, 58, 15, 91, 92, 93, 94, 99, 100, 101, 102, 103, 104, 105, 512, 513, 514, 515, 516, 517, 518, 519, 520, 521] (by decide +kernel) (by decide +kernel)) (goodIn_sub (fun _ h => List.mem_append_right _ h) (by decide +kernel))) (goodIn_sub (fun _ h => List.mem_append_left _ (List.mem_append_right _ h)) (by decide +kernel))
set_option maxRecDepth 20000 in
theorem gL_law_L_nearest : GoodIn wsL_law (va_wsS RL 124 yL_nearest wsL_nearest) := goodIn_app (goodIn_of _ (by decide +kernel)) ggL_law_L_nearest
set_option maxRecDepth 20000 in
theorem ggL_law_X1_nearest : GoodIn wsL_law wsX1_nearest := goodIn_r _ [210, 111, 112, 113, 5, 114, 64, 65, 66, 67, 176, 177, 178, 179, 180, 68, 69, 70, 71, 72, 181, 182, 183, 184, 28, 29, 115, 116, 117, 522, 523, 524, 525, 526, 527, 528, 529, 530, 531, 532, 533, 534] (by decide +kernel) (by decide +kernel)
set_option maxRecDepth 20000 in
theorem gL_law_X1_nearest : GoodIn wsL_law (wsV RL 126 RX1 yX1_nearest wsX1_nearest) := goodIn_app (goodIn_of _ (by decide +kernel)) ggL_law_X1_nearest
set_option maxRecDepth 20000 in
theorem ggL_law_L_times : GoodIn wsL_law wsL_times := goodIn_ca (goodIn_ca (goodIn_r _ [213, 80, 39, 214, 215, 216, 2, 217, 85, 86, 87, 88, 89, 90, 16, 47, 48, 49, 163, 164, 165, 166, 167, 50, 51, 52, 53, 54, 218, 219, 220, 221, 95, 96, 97, 98, 14, 55, 56, 57, 58, 15, 91, 92, 93, 94, 222, 223, 224, 225, 226, 104, 227, 512, 513, 514, 515, 516, 517, 518, 519, 520, 521] (by decide +kernel) (by decide +kernel)) (goodIn_sub (fun _ h => List.mem_append_right _ h) (by decide +kernel))) (goodIn_sub (fun _ h => List.mem_append_left _ (List.mem_append_right _ h)) (by decide +kernel))
set_option maxRecDepth 20000 in
theorem gL_law_L_times : GoodIn wsL_law (va_wsS RL 127 yL_times wsL_times) := goodIn_app (goodIn_of _ (by decide +kernel)) ggL_law_L_times
set_option maxRecDepth 20000 in
theorem ggL_law_X1_times : GoodIn wsL_law wsX1_times := goodIn_r _ [231, 176, 177, 5, 178, 179, 180, 65, 66, 67, 111, 112, 113, 114, 64, 68, 69, 70, 71, 72, 232, 233, 234, 235, 236, 237, 238, 239, 29, 28, 240, 241, 242, 115, 116, 117, 522, 523, 524, 525, 526, 527, 528, 529, 530, 531, 532, 533, 534] (by decide +kernel) (by decide +kernel)
set_option maxRecDepth 20000 in
theorem gL_law_X1_times : GoodIn wsL_law (wsV RL 130 RX1 yX1_times wsX1_times) := goodIn_app (goodIn_of _ (by decide +kernel)) ggL_law_X1_times
set_option maxRecDepth 20000 in
theorem ggL_law_L_heldOn : GoodIn wsL_law wsL_heldOn := goodIn_ca (goodIn_r _ [245, 39, 246, 247, 248, 2, 249, 163, 164, 165, 166, 167, 47, 48, 49, 50, 51, 52, 53, 54, 250, 251, 252, 253, 16, 168, 169, 170, 171, 95, 96, 97, 98, 14, 55, 56, 57, 58, 15, 99, 100, 101, 102, 103, 104, 105, 91, 92, 93, 94, 512, 513, 514, 515, 516, 517, 518, 519, 520, 521] (by decide +kernel) (by decide +kernel)) (goodIn_sub (fun _ h => List.mem_append_left _ (List.mem_append_right _ h)) (by decide +kernel))
set_option maxRecDepth 20000 in
theorem gL_law_L_heldOn : GoodIn wsL_law (va_wsS RL 131 yL_heldOn wsL_heldOn) := goodIn_app (goodIn_of _ (by decide +kernel)) ggL_law_L_heldOn
set_option maxRecDepth 20000 in
theorem ggL_law_X1_heldOn : GoodIn wsL_law wsX1_heldOn := goodIn_r _ [257, 176, 177, 5, 178, 179, 180, 65, 66, 67, 68, 69, 70, 71, 72, 258, 259, 260, 261, 64, 181, 182, 183, 184, 28, 29, 115, 116, 117, 522, 523, 524, 525, 526, 527, 528, 529, 530, 531, 532, 533, 534] (by decide +kernel) (by decide +kernel)
set_option maxRecDepth 20000 in
theorem gL_law_X1_heldOn : GoodIn wsL_law (wsV RL 134 RX1 yX1_heldOn wsX1_heldOn) := goodIn_app (goodIn_of _ (by decide +kernel)) ggL_law_X1_heldOn
set_option maxRecDepth 20000 in
theorem ggL_law_L_doMeet : GoodIn wsL_law wsL_doMeet := goodIn_ca (goodIn_ca (goodIn_r _ [264, 39, 80, 265, 266, 267, 2, 268, 269, 270, 271, 272, 273, 274, 275, 276, 277, 278, 279, 280, 47, 48, 49, 50, 51, 52, 53, 54, 281, 282, 283, 284, 89, 90, 16, 285, 286, 287, 288, 289, 290, 291, 292, 95, 96, 97, 98, 14, 55, 56, 57, 58, 15, 168, 169, 170, 171, 99, 100, 101, 102, 103, 104, 105, 91, 92, 93, 94, 293, 294, 295, 512, 513, 514, 515, 516, 517, 518, 519, 520, 521] (by decide +kernel) (by decide +kernel)) (goodIn_sub (fun _ h => List.mem_append_left _ (List.mem_append_right _ h)) (by decide +kernel))) (goodIn_sub (fun _ h => List.mem_append_right _ h) (by decide +kernel))
set_option maxRecDepth 20000 in
theorem gL_law_L_doMeet : GoodIn wsL_law (va_wsS RL 135 yL_doMeet wsL_doMeet) := goodIn_app (goodIn_of _ (by decide +kernel)) ggL_law_L_doMeet
set_option maxRecDepth 20000 in
theorem ggL_law_X1_doMeet : GoodIn wsL_law wsX1_doMeet := goodIn_r _ [299, 300, 301, 302, 5, 303, 304, 64, 305, 306, 307, 65, 66, 67, 68, 69, 70, 71, 72, 308, 309, 310, 311, 312, 313, 28, 181, 182, 183, 184, 29, 115, 116, 117, 522, 523, 524, 525, 526, 527, 528, 529, 530, 531, 532, 533, 534] (by decide +kernel) (by decide +kernel)
set_option maxRecDepth 20000 in
theorem gL_law_X1_doMeet : GoodIn wsL_law (wsV RL 137 RX1 yX1_doMeet wsX1_doMeet) := goodIn_app (goodIn_of _ (by decide +kernel)) ggL_law_X1_doMeet
set_option maxRecDepth 20000 in
theorem ggL_law_L_period : GoodIn wsL_law wsL_period := goodIn_ca (goodIn_ca (goodIn_ca (goodIn_r _ [316, 39, 80, 40, 317, 318, 319, 2, 320, 270, 271, 272, 273, 274, 275, 276, 277, 278, 279, 280, 47, 48, 49, 50, 51, 52, 53, 54, 281, 282, 283, 284, 89, 90, 16, 285, 286, 287, 288, 269, 289, 290, 291, 292, 95, 96, 97, 98, 14, 55, 56, 57, 58, 15, 168, 169, 170, 171, 99, 100, 101, 102, 103, 104, 105, 91, 92, 93, 94, 293, 294, 295, 321, 322, 323, 45, 46, 324, 325, 326, 327, 512, 513, 514, 515, 516, 517, 518, 519, 520, 521] (by decide +kernel) (by decide +kernel)) (goodIn_sub (fun _ h => List.mem_append_left _ (List.mem_append_right _ h)) (by decide +kernel))) (goodIn_sub (fun _ h => List.mem_append_right _ h) (by decide +kernel))) (goodIn_sub (fun _ h => List.mem_append_left _ (List.mem_append_left _ (List.mem_append_right _ h))) (by decide +kernel))
set_option maxRecDepth 20000 in
theorem gL_law_L_period : GoodIn wsL_law (va_wsS RL 138 yL_period wsL_period) := goodIn_app (goodIn_of _ (by decide +kernel)) ggL_law_L_period
set_option maxRecDepth 20000 in
theorem ggL_law_X1_period : GoodIn wsL_law wsX1_period := goodIn_r _ [331, 313, 300, 301, 302, 5, 303, 304, 64, 305, 306, 307, 65, 66, 67, 308, 309, 310, 311, 312, 28, 181, 182, 183, 184, 29, 115, 116, 117, 68, 69, 70, 71, 72, 522, 523, 524, 525, 526, 527, 528, 529, 530, 531, 532, 533, 534] (by decide +kernel) (by decide +kernel)
set_option maxRecDepth 20000 in
theorem gL_law_X1_period : GoodIn wsL_law (wsV RL 140 RX1 yX1_period wsX1_period) := goodIn_app (goodIn_of _ (by decide +kernel)) ggL_law_X1_period
set_option maxRecDepth 20000 in
theorem ggL_law_L_meeting : GoodIn wsL_law wsL_meeting := goodIn_ca (goodIn_ca (goodIn_ca (goodIn_r _ [334, 39, 80, 40, 335, 336, 337, 2, 338, 163, 164, 165, 166, 167, 47, 48, 49, 50, 51, 52, 53, 54, 270, 271, 272, 273, 274, 275, 276, 277, 278, 279, 280, 281, 282, 283, 284, 89, 90, 16, 285, 286, 287, 288, 269, 289, 290, 291, 292, 95, 96, 97, 98, 14, 55, 56, 57, 58, 15, 168, 169, 170, 171, 99, 100, 101, 102, 103, 104, 105, 91, 92, 93, 94, 293, 294, 295, 321, 322, 323, 45, 46, 324, 325, 326, 327, 512, 513, 514, 515, 516, 517, 518, 519, 520, 521] (by decide +kernel) (by decide +kernel)) (goodIn_sub (fun _ h => List.mem_append_left _ (List.mem_append_right _ h)) (by decide +kernel))) (goodIn_sub (fun _ h => List.mem_append_right _ h) (by decide +kernel))) (goodIn_sub (fun _ h => List.mem_append_left _ (List.mem_append_left _ (List.mem_append_right _ h))) (by decide +kernel))
set_option maxRecDepth 20000 in
theorem gL_law_L_meeting : GoodIn wsL_law (va_wsS RL 141 yL_meeting wsL_meeting) := goodIn_app (goodIn_of _ (by decide +kernel)) ggL_law_L_meeting
set_option maxRecDepth 20000 in
theorem ggL_law_X1_meeting : GoodIn wsL_law wsX1_meeting := goodIn_r _ [342, 312, 176, 177, 5, 178, 179, 180, 65, 66, 67, 300, 301, 302, 303, 304, 64, 305, 306, 307, 308, 309, 310, 311, 313, 28, 181, 182, 183, 184, 29, 115, 116, 117, 68, 69, 70, 71, 72, 522, 523, 524, 525, 526, 527, 528, 529, 530, 531, 532, 533, 534] (by decide +kernel) (by decide +kernel)
set_option maxRecDepth 20000 in
theorem gL_law_X1_meeting : GoodIn wsL_law (wsV RL 143 RX1 yX1_meeting wsX1_meeting) := goodIn_app (goodIn_of _ (by decide +kernel)) ggL_law_X1_meeting
set_option maxRecDepth 20000 in
theorem ggL_law_L_lunarMeeting : GoodIn wsL_law wsL_lunarMeeting := goodIn_ca (goodIn_ca (goodIn_ca (goodIn_r _ [345, 39, 80, 40, 346, 347, 348, 2, 349, 269, 163, 164, 165, 166, 167, 47, 48, 49, 50, 51, 52, 53, 54, 270, 271, 272, 273, 274, 275, 276, 277, 278, 279, 280, 281, 282, 283, 284, 89, 90, 16, 285, 286, 287, 288, 289, 290, 291, 292, 95, 96, 97, 98, 14, 55, 56, 57, 58, 15, 168, 169, 170, 171, 99, 100, 101, 102, 103, 104, 105, 91, 92, 93, 94, 293, 294, 295, 321, 322, 323, 45, 46, 324, 325, 326, 327, 350, 351, 352, 353, 17, 18, 354, 355, 356, 357, 19, 222, 223, 224, 225, 226, 227, 512, 513, 514, 515, 516, 517, 518, 519, 520, 521] (by decide +kernel) (by decide +kernel)) (goodIn_sub (fun _ h => List.mem_append_left _ (List.mem_append_right _ h)) (by decide +kernel))) (goodIn_sub (fun _ h => List.mem_append_right _ h) (by decide +kernel))) (goodIn_sub (fun _ h => List.mem_append_left _ (List.mem_append_left _ (List.mem_append_right _ h))) (by decide +kernel))
set_option maxRecDepth 20000 in
theorem gL_law_L_lunarMeeting : GoodIn wsL_law (va_wsS RL 144 yL_lunarMeeting wsL_lunarMeeting) := goodIn_app (goodIn_of _ (by decide +kernel)) ggL_law_L_lunarMeeting
set_option maxRecDepth 20000 in
theorem ggL_law_X1_lunarMeeting : GoodIn wsL_law wsX1_lunarMeeting := goodIn_r _ [361, 362, 132, 312, 313, 363, 176, 177, 5, 178, 179, 180, 65, 66, 67, 300, 301, 302, 303, 304, 64, 305, 306, 307, 308, 309, 310, 311, 28, 181, 182, 183, 184, 29, 115, 116, 117, 68, 69, 70, 71, 72, 364, 365, 366, 367, 133, 31, 30, 522, 523, 524, 525, 526, 527, 528, 529, 530, 531, 532, 533, 534] (by decide +kernel) (by decide +kernel)
set_option maxRecDepth 20000 in
theorem gL_law_X1_lunarMeeting : GoodIn wsL_law (wsV RL 147 RX1 yX1_lunarMeeting wsX1_lunarMeeting) := goodIn_app (goodIn_of _ (by decide +kernel)) ggL_law_X1_lunarMeeting
set_option maxRecDepth 20000 in
theorem ggL_law_L_best : GoodIn wsL_law wsL_best := goodIn_ca (goodIn_ca (goodIn_r _ [370, 39, 80, 371, 372, 373, 2, 374, 163, 164, 165, 166, 167, 47, 48, 49, 50, 51, 52, 53, 54, 281, 282, 283, 284, 89, 90, 16, 250, 251, 252, 253, 168, 169, 170, 171, 95, 96, 97, 98, 14, 55, 56, 57, 58, 15, 99, 100, 101, 102, 103, 104, 105, 91, 92, 93, 94, 274, 275, 276, 277, 278, 279, 280, 512, 513, 514, 515, 516, 517, 518, 519, 520, 521] (by decide +kernel) (by decide +kernel)) (goodIn_sub (fun _ h => List.mem_append_left _ (List.mem_append_right _ h)) (by decide +kernel))) (goodIn_sub (fun _ h => List.mem_append_right _ h) (by decide +kernel))
set_option maxRecDepth 20000 in
theorem gL_law_L_best : GoodIn wsL_law (va_wsS RL 148 yL_best wsL_best) := goodIn_app (goodIn_of _ (by decide +kernel)) ggL_law_L_best
set_option maxRecDepth 20000 in
theorem ggL_law_X1_best : GoodIn wsL_law wsX1_best := goodIn_r _ [378, 379, 64, 176, 177, 5, 178, 179, 180, 65, 66, 67, 68, 69, 70, 71, 72, 258, 259, 260, 261, 181, 182, 183, 184, 28, 29, 115, 116, 117, 305, 306, 307, 522, 523, 524, 525, 526, 527, 528, 529, 530, 531, 532, 533, 534] (by decide +kernel) (by decide +kernel)
set_option maxRecDepth 20000 in
theorem gL_law_X1_best : GoodIn wsL_law (wsV RL 150 RX1 yX1_best wsX1_best) := goodIn_app (goodIn_of _ (by decide +kernel)) ggL_law_X1_best
set_option maxRecDepth 20000 in
theorem ggL_law_L_month : GoodIn wsL_law wsL_month := goodIn_ca (goodIn_r _ [382, 39, 383, 384, 385, 2, 386, 17, 163, 164, 165, 166, 167, 47, 48, 49, 50, 51, 52, 53, 54, 354, 355, 356, 357, 19, 18, 222, 223, 224, 225, 226, 104, 227, 512, 513, 514, 515, 516, 517, 518, 519, 520, 521] (by decide +kernel) (by decide +kernel)) (goodIn_sub (fun _ h => List.mem_append_left _ (List.mem_append_right _ h)) (by decide +kernel))
set_option maxRecDepth 20000 in
theorem gL_law_L_month : GoodIn wsL_law (va_wsS RL 151 yL_month wsL_month) := goodIn_app (goodIn_of _ (by decide +kernel)) ggL_law_L_month
set_option maxRecDepth 20000 in
theorem ggL_law_X1_month : GoodIn wsL_law wsX1_month := goodIn_r _ [390, 176, 177, 5, 178, 179, 180, 65, 66, 67, 68, 69, 70, 71, 72, 391, 392, 393, 394, 133, 31, 30, 240, 241, 242, 115, 116, 117, 522, 523, 524, 525, 526, 527, 528, 529, 530, 531, 532, 533, 534] (by decide +kernel) (by decide +kernel)
set_option maxRecDepth 20000 in
theorem gL_law_X1_month : GoodIn wsL_law (wsV RL 153 RX1 yX1_month wsX1_month) := goodIn_app (goodIn_of _ (by decide +kernel)) ggL_law_X1_month
set_option maxRecDepth 20000 in
theorem ggL_law_L_lunarDay : GoodIn wsL_law wsL_lunarDay := goodIn_ca (goodIn_r _ [397, 39, 398, 399, 400, 2, 401, 163, 164, 165, 166, 167, 47, 48, 49, 50, 51, 52, 53, 54, 350, 351, 352, 353, 17, 18, 354, 355, 356, 357, 19, 99, 100, 101, 102, 103, 104, 105, 222, 223, 224, 225, 226, 227, 512, 513, 514, 515, 516, 517, 518, 519, 520, 521] (by decide +kernel) (by decide +kernel)) (goodIn_sub (fun _ h => List.mem_append_left _ (List.mem_append_right _ h)) (by decide +kernel))
set_option maxRecDepth 20000 in
theorem gL_law_L_lunarDay : GoodIn wsL_law (va_wsS RL 154 yL_lunarDay wsL_lunarDay) := goodIn_app (goodIn_of _ (by decide +kernel)) ggL_law_L_lunarDay
set_option maxRecDepth 20000 in
theorem ggL_law_X1_lunarDay : GoodIn wsL_law wsX1_lunarDay := goodIn_r _ [405, 176, 177, 5, 178, 179, 180, 65, 66, 67, 68, 69, 70, 71, 72, 364, 365, 366, 367, 133, 31, 30, 115, 116, 117, 522, 523, 524, 525, 526, 527, 528, 529, 530, 531, 532, 533, 534] (by decide +kernel) (by decide +kernel)
set_option maxRecDepth 20000 in
theorem gL_law_X1_lunarDay : GoodIn wsL_law (wsV RL 156 RX1 yX1_lunarDay wsX1_lunarDay) := goodIn_app (goodIn_of _ (by decide +kernel)) ggL_law_X1_lunarDay
set_option maxRecDepth 20000 in
theorem ggL_law_L_monthBegin : GoodIn wsL_law wsL_monthBegin := goodIn_ca (goodIn_r _ [408, 39, 409, 410, 411, 2, 412, 413, 414, 17, 18, 19, 47, 48, 49, 50, 51, 52, 53, 54, 222, 223, 224, 225, 226, 104, 227, 512, 513, 514, 515, 516, 517, 518, 519, 520, 521] (by decide +kernel) (by decide +kernel)) (goodIn_sub (fun _ h => List.mem_append_left _ (List.mem_append_right _ h)) (by decide +kernel))
set_option maxRecDepth 20000 in
theorem gL_law_L_monthBegin : GoodIn wsL_law (va_wsS RL 157 yL_monthBegin wsL_monthBegin) := goodIn_app (goodIn_of _ (by decide +kernel)) ggL_law_L_monthBegin
set_option maxRecDepth 20000 in
theorem ggL_law_X1_monthBegin : GoodIn wsL_law wsX1_monthBegin := goodIn_r _ [418, 419, 420, 30, 31, 133, 130, 65, 66, 5, 67, 68, 69, 70, 71, 72, 240, 241, 242, 115, 116, 117, 391, 392, 393, 394, 522, 523, 524, 525, 526, 527, 528, 529, 530, 531, 532, 533, 534] (by decide +kernel) (by decide +kernel)
set_option maxRecDepth 20000 in
theorem gL_law_X1_monthBegin : GoodIn wsL_law (wsV RL 159 RX1 yX1_monthBegin wsX1_monthBegin) := goodIn_app (goodIn_of _ (by decide +kernel)) ggL_law_X1_monthBegin
set_option maxRecDepth 20000 in
theorem ggL_law_L_year : GoodIn wsL_law wsL_year := goodIn_ca (goodIn_r _ [423, 39, 424, 425, 426, 2, 427, 163, 164, 165, 166, 167, 47, 48, 49, 50, 51, 52, 53, 54, 428, 429, 430, 431, 23, 22, 20, 21, 222, 223, 224, 225, 226, 104, 227, 512, 513, 514, 515, 516, 517, 518, 519, 520, 521] (by decide +kernel) (by decide +kernel)) (goodIn_sub (fun _ h => List.mem_append_left _ (List.mem_append_right _ h)) (by decide +kernel))
set_option maxRecDepth 20000 in
theorem gL_law_L_year : GoodIn wsL_law (va_wsS RL 160 yL_year wsL_year) := goodIn_app (goodIn_of _ (by decide +kernel)) ggL_law_L_year
set_option maxRecDepth 20000 in
theorem ggL_law_X1_year : GoodIn wsL_law wsX1_year := goodIn_r _ [435, 176, 177, 5, 178, 179, 180, 65, 66, 67, 68, 69, 70, 71, 72, 436, 437, 438, 439, 32, 130, 240, 241, 242, 115, 116, 117, 440, 441, 442, 443, 33, 147, 34, 522, 523, 524, 525, 526, 527, 528, 529, 530, 531, 532, 533, 534] (by decide +kernel) (by decide +kernel)
set_option maxRecDepth 20000 in
theorem gL_law_X1_year : GoodIn wsL_law (wsV RL 162 RX1 yX1_year wsX1_year) := goodIn_app (goodIn_of _ (by decide +kernel)) ggL_law_X1_year
set_option maxRecDepth 20000 in
theorem ggL_law_L_placeInYear : GoodIn wsL_law wsL_placeInYear := goodIn_ca (goodIn_r _ [446, 39, 447, 448, 449, 2, 450, 163, 164, 165, 166, 167, 47, 48, 49, 50, 51, 52, 53, 54, 428, 429, 430, 431, 23, 22, 20, 21, 222, 223, 224, 225, 226, 104, 227, 451, 452, 453, 454, 512, 513, 514, 515, 516, 517, 518, 519, 520, 521] (by decide +kernel) (by decide +kernel)) (goodIn_sub (fun _ h => List.mem_append_left _ (List.mem_append_right _ h)) (by decide +kernel))
set_option maxRecDepth 20000 in
theorem gL_law_L_placeInYear : GoodIn wsL_law (va_wsS RL 163 yL_placeInYear wsL_placeInYear) := goodIn_app (goodIn_of _ (by decide +kernel)) ggL_law_L_placeInYear
set_option maxRecDepth 20000 in
theorem ggL_law_X1_placeInYear : GoodIn wsL_law wsX1_placeInYear := goodIn_r _ [458, 176, 177, 5, 178, 179, 180, 65, 66, 67, 68, 69, 70, 71, 72, 436, 437, 438, 439, 32, 130, 240, 241, 242, 115, 116, 117, 440, 441, 442, 443, 33, 147, 34, 522, 523, 524, 525, 526, 527, 528, 529, 530, 531, 532, 533, 534] (by decide +kernel) (by decide +kernel)
set_option maxRecDepth 20000 in
theorem gL_law_X1_placeInYear : GoodIn wsL_law (wsV RL 165 RX1 yX1_placeInYear wsX1_placeInYear) := goodIn_app (goodIn_of _ (by decide +kernel)) ggL_law_X1_placeInYear
set_option maxRecDepth 20000 in
theorem ggL_law_L_isLeap : GoodIn wsL_law wsL_isLeap := goodIn_ca (goodIn_r _ [461, 39, 462, 463, 464, 2, 465, 466, 467, 468, 47, 48, 49, 50, 51, 52, 53, 54, 469, 470, 471, 472, 21, 22, 23, 99, 100, 101, 102, 103, 104, 105, 512, 513, 514, 515, 516, 517, 518, 519, 520, 521] (by decide +kernel) (by decide +kernel)) (goodIn_sub (fun _ h => List.mem_append_left _ (List.mem_append_right _ h)) (by decide +kernel))
set_option maxRecDepth 20000 in
theorem gL_law_L_isLeap : GoodIn wsL_law (va_wsS RL 166 yL_isLeap wsL_isLeap) := goodIn_app (goodIn_of _ (by decide +kernel)) ggL_law_L_isLeap
set_option maxRecDepth 20000 in
theorem ggL_law_X1_isLeap : GoodIn wsL_law wsX1_isLeap := goodIn_r _ [476, 477, 478, 5, 479, 480, 481, 65, 66, 67, 68, 69, 70, 71, 72, 482, 483, 484, 485, 33, 147, 34, 115, 116, 117, 522, 523, 524, 525, 526, 527, 528, 529, 530, 531, 532, 533, 534] (by decide +kernel) (by decide +kernel)
set_option maxRecDepth 20000 in
theorem gL_law_X1_isLeap : GoodIn wsL_law (wsV RL 168 RX1 yX1_isLeap wsX1_isLeap) := goodIn_app (goodIn_of _ (by decide +kernel)) ggL_law_X1_isLeap
set_option maxRecDepth 20000 in
theorem ggL_law_L_dayOf : GoodIn wsL_law wsL_dayOf := goodIn_ca (goodIn_r _ [488, 39, 489, 490, 491, 2, 492, 20, 466, 467, 468, 47, 48, 49, 50, 51, 52, 53, 54, 469, 470, 471, 472, 21, 22, 23, 99, 100, 101, 102, 103, 104, 105, 451, 452, 453, 454, 222, 223, 224, 225, 226, 227, 512, 513, 514, 515, 516, 517, 518, 519, 520, 521] (by decide +kernel) (by decide +kernel)) (goodIn_sub (fun _ h => List.mem_append_left _ (List.mem_append_right _ h)) (by decide +kernel))
set_option maxRecDepth 20000 in
theorem gL_law_L_dayOf : GoodIn wsL_law (va_wsS RL 169 yL_dayOf wsL_dayOf) := goodIn_app (goodIn_of _ (by decide +kernel)) ggL_law_L_dayOf
set_option maxRecDepth 20000 in
theorem ggL_law_X1_dayOf : GoodIn wsL_law wsX1_dayOf := goodIn_r _ [496, 477, 478, 5, 479, 480, 481, 65, 66, 67, 497, 498, 499, 500, 32, 482, 483, 484, 485, 33, 147, 34, 115, 116, 117, 68, 69, 70, 71, 72, 440, 441, 442, 443, 240, 241, 242, 522, 523, 524, 525, 526, 527, 528, 529, 530, 531, 532, 533, 534] (by decide +kernel) (by decide +kernel)
set_option maxRecDepth 20000 in
theorem gL_law_X1_dayOf : GoodIn wsL_law (wsV RL 171 RX1 yX1_dayOf wsX1_dayOf) := goodIn_app (goodIn_of _ (by decide +kernel)) ggL_law_X1_dayOf
set_option maxRecDepth 20000 in
theorem ggL_law_L_timesInYear : GoodIn wsL_law wsL_timesInYear := goodIn_ca (goodIn_ca (goodIn_r _ [503, 80, 39, 504, 505, 506, 2, 507, 85, 86, 87, 88, 89, 90, 16, 47, 48, 49, 466, 467, 468, 50, 51, 52, 53, 54, 451, 452, 453, 454, 20, 21, 22, 23, 222, 223, 224, 225, 226, 104, 227, 218, 219, 220, 221, 95, 96, 97, 98, 14, 55, 56, 57, 58, 15, 91, 92, 93, 94, 512, 513, 514, 515, 516, 517, 518, 519, 520, 521] (by decide +kernel) (by decide +kernel)) (goodIn_sub (fun _ h => List.mem_append_right _ h) (by decide +kernel))) (goodIn_sub (fun _ h => List.mem_append_left _ (List.mem_append_right _ h)) (by decide +kernel))
set_option maxRecDepth 20000 in
theorem gL_law_L_timesInYear : GoodIn wsL_law (va_wsS RL 172 yL_timesInYear wsL_timesInYear) := goodIn_app (goodIn_of _ (by decide +kernel)) ggL_law_L_timesInYear
set_option maxRecDepth 20000 in
theorem ggL_law_X1_timesInYear : GoodIn wsL_law wsX1_timesInYear := goodIn_r _ [511, 111, 112, 113, 5, 114, 64, 65, 66, 67, 477, 478, 479, 480, 481, 68, 69, 70, 71, 72, 440, 441, 442, 443, 32, 33, 147, 34, 240, 241, 242, 115, 116, 117, 497, 498, 499, 500, 482, 483, 484, 485, 232, 233, 234, 235, 236, 237, 238, 239, 29, 28, 522, 523, 524, 525, 526, 527, 528, 529, 530, 531, 532, 533, 534] (by decide +kernel) (by decide +kernel)
set_option maxRecDepth 20000 in
theorem gL_law_X1_timesInYear : GoodIn wsL_law (wsV RL 174 RX1 yX1_timesInYear wsX1_timesInYear) := goodIn_app (goodIn_of _ (by decide +kernel)) ggL_law_X1_timesInYear
theorem dL_law_0 : decode cL_law 0 = .ok (.new 8, 3) := by decide +kernel
theorem dL_law_3 : decode cL_law 3 = .ok (.dup, 1) := by decide +kernel
theorem dL_law_4 : decode cL_law 4 = .ok (.invokespecial 89, 3) := by decide +kernel
theorem dL_law_7 : decode cL_law 7 = .ok (.astore_n 1, 1) := by decide +kernel
theorem dL_law_8 : decode cL_law 8 = .ok (.new 90, 3) := by decide +kernel
theorem dL_law_11 : decode cL_law 11 = .ok (.dup, 1) := by decide +kernel
theorem dL_law_12 : decode cL_law 12 = .ok (.invokespecial 92, 3) := by decide +kernel
theorem dL_law_15 : decode cL_law 15 = .ok (.astore_n 2, 1) := by decide +kernel
theorem dL_law_16 : decode cL_law 16 = .ok (.iconst 1, 1) := by decide +kernel
theorem dL_law_17 : decode cL_law 17 = .ok (.newarray .long, 2) := by decide +kernel
theorem dL_law_19 : decode cL_law 19 = .ok (.astore_n 3, 1) := by decide +kernel
theorem dL_law_20 : decode cL_law 20 = .ok (.iconst 0, 1) := by decide +kernel
theorem dL_law_21 : decode cL_law 21 = .ok (.istore 4, 2) := by decide +kernel
theorem dL_law_23 : decode cL_law 23 = .ok (.iload 4, 2) := by decide +kernel
theorem dL_law_25 : decode cL_law 25 = .ok (.aload_n 0, 1) := by decide +kernel
theorem dL_law_26 : decode cL_law 26 = .ok (.arraylength, 1) := by decide +kernel
theorem dL_law_27 : decode cL_law 27 = .ok (.iconst 5, 1) := by decide +kernel
theorem dL_law_28 : decode cL_law 28 = .ok (.isub, 1) := by decide +kernel
theorem dL_law_29 : decode cL_law 29 = .ok (.if_icmp .gt 1586, 3) := by decide +kernel
theorem dL_law_32 : decode cL_law 32 = .ok (.aload_n 0, 1) := by decide +kernel
theorem dL_law_33 : decode cL_law 33 = .ok (.iload 4, 2) := by decide +kernel
theorem dL_law_35 : decode cL_law 35 = .ok (.iaload, 1) := by decide +kernel
theorem dL_law_36 : decode cL_law 36 = .ok (.bipush 31, 2) := by decide +kernel
theorem dL_law_38 : decode cL_law 38 = .ok (.iand, 1) := by decide +kernel
theorem dL_law_39 : decode cL_law 39 = .ok (.tableswitch 1570 0 22 #[105, 173, 241, 301, 373, 386, 461, 529, 597, 677, 733, 796, 852, 920, 1011, 1091, 1147, 1203, 1259, 1315, 1371, 1434, 1502], 105) := by decide +kernel
theorem dL_law_144 : decode cL_law 144 = .ok (.aload_n 1, 1) := by decide +kernel
theorem dL_law_145 : decode cL_law 145 = .ok (.aload_n 0, 1) := by decide +kernel
theorem dL_law_146 : decode cL_law 146 = .ok (.iload 4, 2) := by decide +kernel
theorem dL_law_148 : decode cL_law 148 = .ok (.iconst 1, 1) := by decide +kernel
theorem dL_law_149 : decode cL_law 149 = .ok (.iadd, 1) := by decide +kernel
theorem dL_law_150 : decode cL_law 150 = .ok (.iaload, 1) := by decide +kernel
theorem dL_law_151 : decode cL_law 151 = .ok (.aload_n 0, 1) := by decide +kernel
theorem dL_law_152 : decode cL_law 152 = .ok (.iload 4, 2) := by decide +kernel
theorem dL_law_154 : decode cL_law 154 = .ok (.iconst 2, 1) := by decide +kernel
theorem dL_law_155 : decode cL_law 155 = .ok (.iadd, 1) := by decide +kernel
theorem dL_law_156 : decode cL_law 156 = .ok (.iaload, 1) := by decide +kernel
theorem dL_law_157 : decode cL_law 157 = .ok (.aload_n 3, 1) := by decide +kernel
theorem dL_law_158 : decode cL_law 158 = .ok (.invokestatic 93, 3) := by decide +kernel
theorem dL_law_161 : decode cL_law 161 = .ok (.istore 5, 2) := by decide +kernel
theorem dL_law_163 : decode cL_law 163 = .ok (.aload_n 2, 1) := by decide +kernel
theorem dL_law_164 : decode cL_law 164 = .ok (.aload_n 0, 1) := by decide +kernel
theorem dL_law_165 : decode cL_law 165 = .ok (.iload 4, 2) := by decide +kernel
theorem dL_law_167 : decode cL_law 167 = .ok (.iconst 1, 1) := by decide +kernel
theorem dL_law_168 : decode cL_law 168 = .ok (.iadd, 1) := by decide +kernel
theorem dL_law_169 : decode cL_law 169 = .ok (.iaload, 1) := by decide +kernel
theorem dL_law_170 : decode cL_law 170 = .ok (.aload_n 0, 1) := by decide +kernel
theorem dL_law_171 : decode cL_law 171 = .ok (.iload 4, 2) := by decide +kernel
theorem dL_law_173 : decode cL_law 173 = .ok (.iconst 2, 1) := by decide +kernel
theorem dL_law_174 : decode cL_law 174 = .ok (.iadd, 1) := by decide +kernel
theorem dL_law_175 : decode cL_law 175 = .ok (.iaload, 1) := by decide +kernel
theorem dL_law_176 : decode cL_law 176 = .ok (.invokevirtual 98, 3) := by decide +kernel
theorem dL_law_179 : decode cL_law 179 = .ok (.istore 6, 2) := by decide +kernel
theorem dL_law_181 : decode cL_law 181 = .ok (.aload_n 2, 1) := by decide +kernel
theorem dL_law_182 : decode cL_law 182 = .ok (.invokevirtual 99, 3) := by decide +kernel
theorem dL_law_185 : decode cL_law 185 = .ok (.iload 5, 2) := by decide +kernel
theorem dL_law_187 : decode cL_law 187 = .ok (.if_icmp .eq 5, 3) := by decide +kernel
theorem dL_law_190 : decode cL_law 190 = .ok (.iconst 0, 1) := by decide +kernel
theorem dL_law_191 : decode cL_law 191 = .ok (.ireturn, 1) := by decide +kernel
theorem dL_law_192 : decode cL_law 192 = .ok (.iload 5, 2) := by decide +kernel
theorem dL_law_194 : decode cL_law 194 = .ok (.ifCond .ne 15, 3) := by decide +kernel
theorem dL_law_197 : decode cL_law 197 = .ok (.aload_n 3, 1) := by decide +kernel
theorem dL_law_198 : decode cL_law 198 = .ok (.iconst 0, 1) := by decide +kernel
theorem dL_law_199 : decode cL_law 199 = .ok (.laload, 1) := by decide +kernel
theorem dL_law_200 : decode cL_law 200 = .ok (.iload 6, 2) := by decide +kernel
theorem dL_law_202 : decode cL_law 202 = .ok (.i2l, 1) := by decide +kernel
theorem dL_law_203 : decode cL_law 203 = .ok (.lcmp, 1) := by decide +kernel
theorem dL_law_204 : decode cL_law 204 = .ok (.ifCond .eq 5, 3) := by decide +kernel
theorem dL_law_207 : decode cL_law 207 = .ok (.iconst 0, 1) := by decide +kernel
theorem dL_law_208 : decode cL_law 208 = .ok (.ireturn, 1) := by decide +kernel
theorem dL_law_209 : decode cL_law 209 = .ok (.goto 1400, 3) := by decide +kernel
theorem dL_law_212 : decode cL_law 212 = .ok (.aload_n 1, 1) := by decide +kernel
theorem dL_law_213 : decode cL_law 213 = .ok (.aload_n 0, 1) := by decide +kernel
theorem dL_law_214 : decode cL_law 214 = .ok (.iload 4, 2) := by decide +kernel
theorem dL_law_216 : decode cL_law 216 = .ok (.iconst 1, 1) := by decide +kernel
theorem dL_law_217 : decode cL_law 217 = .ok (.iadd, 1) := by decide +kernel
theorem dL_law_218 : decode cL_law 218 = .ok (.iaload, 1) := by decide +kernel
theorem dL_law_219 : decode cL_law 219 = .ok (.aload_n 0, 1) := by decide +kernel
theorem dL_law_220 : decode cL_law 220 = .ok (.iload 4, 2) := by decide +kernel
theorem dL_law_222 : decode cL_law 222 = .ok (.iconst 2, 1) := by decide +kernel
theorem dL_law_223 : decode cL_law 223 = .ok (.iadd, 1) := by decide +kernel
theorem dL_law_224 : decode cL_law 224 = .ok (.iaload, 1) := by decide +kernel
theorem dL_law_225 : decode cL_law 225 = .ok (.aload_n 3, 1) := by decide +kernel
theorem dL_law_226 : decode cL_law 226 = .ok (.invokestatic 103, 3) := by decide +kernel
theorem dL_law_229 : decode cL_law 229 = .ok (.istore 5, 2) := by decide +kernel
theorem dL_law_231 : decode cL_law 231 = .ok (.aload_n 2, 1) := by decide +kernel
theorem dL_law_232 : decode cL_law 232 = .ok (.aload_n 0, 1) := by decide +kernel
theorem dL_law_233 : decode cL_law 233 = .ok (.iload 4, 2) := by decide +kernel
theorem dL_law_235 : decode cL_law 235 = .ok (.iconst 1, 1) := by decide +kernel
theorem dL_law_236 : decode cL_law 236 = .ok (.iadd, 1) := by decide +kernel
theorem dL_law_237 : decode cL_law 237 = .ok (.iaload, 1) := by decide +kernel
theorem dL_law_238 : decode cL_law 238 = .ok (.aload_n 0, 1) := by decide +kernel
theorem dL_law_239 : decode cL_law 239 = .ok (.iload 4, 2) := by decide +kernel
theorem dL_law_241 : decode cL_law 241 = .ok (.iconst 2, 1) := by decide +kernel
theorem dL_law_242 : decode cL_law 242 = .ok (.iadd, 1) := by decide +kernel
theorem dL_law_243 : decode cL_law 243 = .ok (.iaload, 1) := by decide +kernel
theorem dL_law_244 : decode cL_law 244 = .ok (.invokevirtual 105, 3) := by decide +kernel
theorem dL_law_247 : decode cL_law 247 = .ok (.istore 6, 2) := by decide +kernel
theorem dL_law_249 : decode cL_law 249 = .ok (.aload_n 2, 1) := by decide +kernel
theorem dL_law_250 : decode cL_law 250 = .ok (.invokevirtual 99, 3) := by decide +kernel
theorem dL_law_253 : decode cL_law 253 = .ok (.iload 5, 2) := by decide +kernel
theorem dL_law_255 : decode cL_law 255 = .ok (.if_icmp .eq 5, 3) := by decide +kernel
theorem dL_law_258 : decode cL_law 258 = .ok (.iconst 0, 1) := by decide +kernel
theorem dL_law_259 : decode cL_law 259 = .ok (.ireturn, 1) := by decide +kernel
theorem dL_law_260 : decode cL_law 260 = .ok (.iload 5, 2) := by decide +kernel
theorem dL_law_262 : decode cL_law 262 = .ok (.ifCond .ne 15, 3) := by decide +kernel
theorem dL_law_265 : decode cL_law 265 = .ok (.aload_n 3, 1) := by decide +kernel
theorem dL_law_266 : decode cL_law 266 = .ok (.iconst 0, 1) := by decide +kernel
theorem dL_law_267 : decode cL_law 267 = .ok (.laload, 1) := by decide +kernel
theorem dL_law_268 : decode cL_law 268 = .ok (.iload 6, 2) := by decide +kernel
theorem dL_law_270 : decode cL_law 270 = .ok (.i2l, 1) := by decide +kernel
theorem dL_law_271 : decode cL_law 271 = .ok (.lcmp, 1) := by decide +kernel
theorem dL_law_272 : decode cL_law 272 = .ok (.ifCond .eq 5, 3) := by decide +kernel
theorem dL_law_275 : decode cL_law 275 = .ok (.iconst 0, 1) := by decide +kernel
theorem dL_law_276 : decode cL_law 276 = .ok (.ireturn, 1) := by decide +kernel
theorem dL_law_277 : decode cL_law 277 = .ok (.goto 1332, 3) := by decide +kernel
theorem dL_law_280 : decode cL_law 280 = .ok (.aload_n 1, 1) := by decide +kernel
theorem dL_law_281 : decode cL_law 281 = .ok (.aload_n 0, 1) := by decide +kernel
theorem dL_law_282 : decode cL_law 282 = .ok (.iload 4, 2) := by decide +kernel
theorem dL_law_284 : decode cL_law 284 = .ok (.iconst 1, 1) := by decide +kernel
theorem dL_law_285 : decode cL_law 285 = .ok (.iadd, 1) := by decide +kernel
theorem dL_law_286 : decode cL_law 286 = .ok (.iaload, 1) := by decide +kernel
theorem dL_law_287 : decode cL_law 287 = .ok (.aload_n 0, 1) := by decide +kernel
theorem dL_law_288 : decode cL_law 288 = .ok (.iload 4, 2) := by decide +kernel
theorem dL_law_290 : decode cL_law 290 = .ok (.iconst 2, 1) := by decide +kernel
theorem dL_law_291 : decode cL_law 291 = .ok (.iadd, 1) := by decide +kernel
theorem dL_law_292 : decode cL_law 292 = .ok (.iaload, 1) := by decide +kernel
theorem dL_law_293 : decode cL_law 293 = .ok (.aload_n 0, 1) := by decide +kernel
theorem dL_law_294 : decode cL_law 294 = .ok (.iload 4, 2) := by decide +kernel
theorem dL_law_296 : decode cL_law 296 = .ok (.iconst 3, 1) := by decide +kernel
theorem dL_law_297 : decode cL_law 297 = .ok (.iadd, 1) := by decide +kernel
theorem dL_law_298 : decode cL_law 298 = .ok (.iaload, 1) := by decide +kernel
theorem dL_law_299 : decode cL_law 299 = .ok (.invokestatic 106, 3) := by decide +kernel
theorem dL_law_302 : decode cL_law 302 = .ok (.istore 5, 2) := by decide +kernel
theorem dL_law_304 : decode cL_law 304 = .ok (.aload_n 2, 1) := by decide +kernel
theorem dL_law_305 : decode cL_law 305 = .ok (.aload_n 0, 1) := by decide +kernel
theorem dL_law_306 : decode cL_law 306 = .ok (.iload 4, 2) := by decide +kernel
theorem dL_law_308 : decode cL_law 308 = .ok (.iconst 1, 1) := by decide +kernel
theorem dL_law_309 : decode cL_law 309 = .ok (.iadd, 1) := by decide +kernel
theorem dL_law_310 : decode cL_law 310 = .ok (.iaload, 1) := by decide +kernel
theorem dL_law_311 : decode cL_law 311 = .ok (.aload_n 0, 1) := by decide +kernel
theorem dL_law_312 : decode cL_law 312 = .ok (.iload 4, 2) := by decide +kernel
theorem dL_law_314 : decode cL_law 314 = .ok (.iconst 2, 1) := by decide +kernel
theorem dL_law_315 : decode cL_law 315 = .ok (.iadd, 1) := by decide +kernel
theorem dL_law_316 : decode cL_law 316 = .ok (.iaload, 1) := by decide +kernel
theorem dL_law_317 : decode cL_law 317 = .ok (.aload_n 0, 1) := by decide +kernel
theorem dL_law_318 : decode cL_law 318 = .ok (.iload 4, 2) := by decide +kernel
theorem dL_law_320 : decode cL_law 320 = .ok (.iconst 3, 1) := by decide +kernel
theorem dL_law_321 : decode cL_law 321 = .ok (.iadd, 1) := by decide +kernel
theorem dL_law_322 : decode cL_law 322 = .ok (.iaload, 1) := by decide +kernel
theorem dL_law_323 : decode cL_law 323 = .ok (.invokevirtual 109, 3) := by decide +kernel
theorem dL_law_326 : decode cL_law 326 = .ok (.aload_n 2, 1) := by decide +kernel
theorem dL_law_327 : decode cL_law 327 = .ok (.invokevirtual 99, 3) := by decide +kernel
theorem dL_law_330 : decode cL_law 330 = .ok (.iload 5, 2) := by decide +kernel
theorem dL_law_332 : decode cL_law 332 = .ok (.if_icmp .eq 5, 3) := by decide +kernel
theorem dL_law_335 : decode cL_law 335 = .ok (.iconst 0, 1) := by decide +kernel
theorem dL_law_336 : decode cL_law 336 = .ok (.ireturn, 1) := by decide +kernel
theorem dL_law_337 : decode cL_law 337 = .ok (.goto 1272, 3) := by decide +kernel
theorem dL_law_340 : decode cL_law 340 = .ok (.aload_n 1, 1) := by decide +kernel
theorem dL_law_341 : decode cL_law 341 = .ok (.aload_n 0, 1) := by decide +kernel
theorem dL_law_342 : decode cL_law 342 = .ok (.iload 4, 2) := by decide +kernel
theorem dL_law_344 : decode cL_law 344 = .ok (.iconst 1, 1) := by decide +kernel
theorem dL_law_345 : decode cL_law 345 = .ok (.iadd, 1) := by decide +kernel
theorem dL_law_346 : decode cL_law 346 = .ok (.iaload, 1) := by decide +kernel
theorem dL_law_347 : decode cL_law 347 = .ok (.aload_n 0, 1) := by decide +kernel
theorem dL_law_348 : decode cL_law 348 = .ok (.iload 4, 2) := by decide +kernel
theorem dL_law_350 : decode cL_law 350 = .ok (.iconst 2, 1) := by decide +kernel
theorem dL_law_351 : decode cL_law 351 = .ok (.iadd, 1) := by decide +kernel
theorem dL_law_352 : decode cL_law 352 = .ok (.iaload, 1) := by decide +kernel
theorem dL_law_353 : decode cL_law 353 = .ok (.aload_n 0, 1) := by decide +kernel
theorem dL_law_354 : decode cL_law 354 = .ok (.iload 4, 2) := by decide +kernel
theorem dL_law_356 : decode cL_law 356 = .ok (.iconst 3, 1) := by decide +kernel
theorem dL_law_357 : decode cL_law 357 = .ok (.iadd, 1) := by decide +kernel
theorem dL_law_358 : decode cL_law 358 = .ok (.iaload, 1) := by decide +kernel
theorem dL_law_359 : decode cL_law 359 = .ok (.aload_n 0, 1) := by decide +kernel
theorem dL_law_360 : decode cL_law 360 = .ok (.iload 4, 2) := by decide +kernel
theorem dL_law_362 : decode cL_law 362 = .ok (.iconst 4, 1) := by decide +kernel
theorem dL_law_363 : decode cL_law 363 = .ok (.iadd, 1) := by decide +kernel
theorem dL_law_364 : decode cL_law 364 = .ok (.iaload, 1) := by decide +kernel
theorem dL_law_365 : decode cL_law 365 = .ok (.invokestatic 110, 3) := by decide +kernel
theorem dL_law_368 : decode cL_law 368 = .ok (.istore 5, 2) := by decide +kernel
theorem dL_law_370 : decode cL_law 370 = .ok (.aload_n 2, 1) := by decide +kernel
theorem dL_law_371 : decode cL_law 371 = .ok (.aload_n 0, 1) := by decide +kernel
theorem dL_law_372 : decode cL_law 372 = .ok (.iload 4, 2) := by decide +kernel
theorem dL_law_374 : decode cL_law 374 = .ok (.iconst 1, 1) := by decide +kernel
theorem dL_law_375 : decode cL_law 375 = .ok (.iadd, 1) := by decide +kernel
theorem dL_law_376 : decode cL_law 376 = .ok (.iaload, 1) := by decide +kernel
theorem dL_law_377 : decode cL_law 377 = .ok (.aload_n 0, 1) := by decide +kernel
theorem dL_law_378 : decode cL_law 378 = .ok (.iload 4, 2) := by decide +kernel
theorem dL_law_380 : decode cL_law 380 = .ok (.iconst 2, 1) := by decide +kernel
theorem dL_law_381 : decode cL_law 381 = .ok (.iadd, 1) := by decide +kernel
theorem dL_law_382 : decode cL_law 382 = .ok (.iaload, 1) := by decide +kernel
theorem dL_law_383 : decode cL_law 383 = .ok (.aload_n 0, 1) := by decide +kernel
theorem dL_law_384 : decode cL_law 384 = .ok (.iload 4, 2) := by decide +kernel
theorem dL_law_386 : decode cL_law 386 = .ok (.iconst 3, 1) := by decide +kernel
theorem dL_law_387 : decode cL_law 387 = .ok (.iadd, 1) := by decide +kernel
theorem dL_law_388 : decode cL_law 388 = .ok (.iaload, 1) := by decide +kernel
theorem dL_law_389 : decode cL_law 389 = .ok (.aload_n 0, 1) := by decide +kernel
theorem dL_law_390 : decode cL_law 390 = .ok (.iload 4, 2) := by decide +kernel
theorem dL_law_392 : decode cL_law 392 = .ok (.iconst 4, 1) := by decide +kernel
theorem dL_law_393 : decode cL_law 393 = .ok (.iadd, 1) := by decide +kernel
theorem dL_law_394 : decode cL_law 394 = .ok (.iaload, 1) := by decide +kernel
theorem dL_law_395 : decode cL_law 395 = .ok (.invokevirtual 113, 3) := by decide +kernel
theorem dL_law_398 : decode cL_law 398 = .ok (.aload_n 2, 1) := by decide +kernel
theorem dL_law_399 : decode cL_law 399 = .ok (.invokevirtual 99, 3) := by decide +kernel
theorem dL_law_402 : decode cL_law 402 = .ok (.iload 5, 2) := by decide +kernel
theorem dL_law_404 : decode cL_law 404 = .ok (.if_icmp .eq 5, 3) := by decide +kernel
theorem dL_law_407 : decode cL_law 407 = .ok (.iconst 0, 1) := by decide +kernel
theorem dL_law_408 : decode cL_law 408 = .ok (.ireturn, 1) := by decide +kernel
theorem dL_law_409 : decode cL_law 409 = .ok (.goto 1200, 3) := by decide +kernel
theorem dL_law_412 : decode cL_law 412 = .ok (.aload_n 1, 1) := by decide +kernel
theorem dL_law_413 : decode cL_law 413 = .ok (.invokevirtual 114, 3) := by decide +kernel
theorem dL_law_416 : decode cL_law 416 = .ok (.aload_n 2, 1) := by decide +kernel
theorem dL_law_417 : decode cL_law 417 = .ok (.invokevirtual 117, 3) := by decide +kernel
theorem dL_law_420 : decode cL_law 420 = .ok (.if_icmp .eq 1189, 3) := by decide +kernel
theorem dL_law_423 : decode cL_law 423 = .ok (.iconst 0, 1) := by decide +kernel
theorem dL_law_424 : decode cL_law 424 = .ok (.ireturn, 1) := by decide +kernel
theorem dL_law_425 : decode cL_law 425 = .ok (.aload_n 1, 1) := by decide +kernel
theorem dL_law_426 : decode cL_law 426 = .ok (.aload_n 0, 1) := by decide +kernel
theorem dL_law_427 : decode cL_law 427 = .ok (.iload 4, 2) := by decide +kernel
theorem dL_law_429 : decode cL_law 429 = .ok (.iconst 1, 1) := by decide +kernel
theorem dL_law_430 : decode cL_law 430 = .ok (.iadd, 1) := by decide +kernel
theorem dL_law_431 : decode cL_law 431 = .ok (.iaload, 1) := by decide +kernel
theorem dL_law_432 : decode cL_law 432 = .ok (.aload_n 0, 1) := by decide +kernel
theorem dL_law_433 : decode cL_law 433 = .ok (.iload 4, 2) := by decide +kernel
theorem dL_law_435 : decode cL_law 435 = .ok (.iconst 2, 1) := by decide +kernel
theorem dL_law_436 : decode cL_law 436 = .ok (.iadd, 1) := by decide +kernel
theorem dL_law_437 : decode cL_law 437 = .ok (.iaload, 1) := by decide +kernel
theorem dL_law_438 : decode cL_law 438 = .ok (.aload_n 3, 1) := by decide +kernel
theorem dL_law_439 : decode cL_law 439 = .ok (.invokestatic 118, 3) := by decide +kernel
theorem dL_law_442 : decode cL_law 442 = .ok (.istore 5, 2) := by decide +kernel
theorem dL_law_444 : decode cL_law 444 = .ok (.aload_n 2, 1) := by decide +kernel
theorem dL_law_445 : decode cL_law 445 = .ok (.aload_n 0, 1) := by decide +kernel
theorem dL_law_446 : decode cL_law 446 = .ok (.iload 4, 2) := by decide +kernel
theorem dL_law_448 : decode cL_law 448 = .ok (.iconst 1, 1) := by decide +kernel
theorem dL_law_449 : decode cL_law 449 = .ok (.iadd, 1) := by decide +kernel
theorem dL_law_450 : decode cL_law 450 = .ok (.iaload, 1) := by decide +kernel
theorem dL_law_451 : decode cL_law 451 = .ok (.aload_n 0, 1) := by decide +kernel
theorem dL_law_452 : decode cL_law 452 = .ok (.iload 4, 2) := by decide +kernel
theorem dL_law_454 : decode cL_law 454 = .ok (.iconst 2, 1) := by decide +kernel
theorem dL_law_455 : decode cL_law 455 = .ok (.iadd, 1) := by decide +kernel
theorem dL_law_456 : decode cL_law 456 = .ok (.iaload, 1) := by decide +kernel
theorem dL_law_457 : decode cL_law 457 = .ok (.invokevirtual 120, 3) := by decide +kernel
theorem dL_law_460 : decode cL_law 460 = .ok (.istore 6, 2) := by decide +kernel
theorem dL_law_462 : decode cL_law 462 = .ok (.aload_n 2, 1) := by decide +kernel
theorem dL_law_463 : decode cL_law 463 = .ok (.invokevirtual 99, 3) := by decide +kernel
theorem dL_law_466 : decode cL_law 466 = .ok (.iload 5, 2) := by decide +kernel
theorem dL_law_468 : decode cL_law 468 = .ok (.if_icmp .eq 5, 3) := by decide +kernel
theorem dL_law_471 : decode cL_law 471 = .ok (.iconst 0, 1) := by decide +kernel
theorem dL_law_472 : decode cL_law 472 = .ok (.ireturn, 1) := by decide +kernel
theorem dL_law_473 : decode cL_law 473 = .ok (.iload 5, 2) := by decide +kernel
theorem dL_law_475 : decode cL_law 475 = .ok (.ifCond .ne 22, 3) := by decide +kernel
theorem dL_law_478 : decode cL_law 478 = .ok (.aload_n 3, 1) := by decide +kernel
theorem dL_law_479 : decode cL_law 479 = .ok (.iconst 0, 1) := by decide +kernel
theorem dL_law_480 : decode cL_law 480 = .ok (.laload, 1) := by decide +kernel
theorem dL_law_481 : decode cL_law 481 = .ok (.iload 6, 2) := by decide +kernel
theorem dL_law_483 : decode cL_law 483 = .ok (.ifCond .eq 7, 3) := by decide +kernel
theorem dL_law_486 : decode cL_law 486 = .ok (.lconst 1, 1) := by decide +kernel
theorem dL_law_487 : decode cL_law 487 = .ok (.goto 4, 3) := by decide +kernel
theorem dL_law_490 : decode cL_law 490 = .ok (.lconst 0, 1) := by decide +kernel
theorem dL_law_491 : decode cL_law 491 = .ok (.lcmp, 1) := by decide +kernel
theorem dL_law_492 : decode cL_law 492 = .ok (.ifCond .eq 5, 3) := by decide +kernel
theorem dL_law_495 : decode cL_law 495 = .ok (.iconst 0, 1) := by decide +kernel
theorem dL_law_496 : decode cL_law 496 = .ok (.ireturn, 1) := by decide +kernel
theorem dL_law_497 : decode cL_law 497 = .ok (.goto 1112, 3) := by decide +kernel
theorem dL_law_500 : decode cL_law 500 = .ok (.aload_n 1, 1) := by decide +kernel
theorem dL_law_501 : decode cL_law 501 = .ok (.aload_n 0, 1) := by decide +kernel
theorem dL_law_502 : decode cL_law 502 = .ok (.iload 4, 2) := by decide +kernel
theorem dL_law_504 : decode cL_law 504 = .ok (.iconst 1, 1) := by decide +kernel
theorem dL_law_505 : decode cL_law 505 = .ok (.iadd, 1) := by decide +kernel
theorem dL_law_506 : decode cL_law 506 = .ok (.iaload, 1) := by decide +kernel
theorem dL_law_507 : decode cL_law 507 = .ok (.aload_n 0, 1) := by decide +kernel
theorem dL_law_508 : decode cL_law 508 = .ok (.iload 4, 2) := by decide +kernel
theorem dL_law_510 : decode cL_law 510 = .ok (.iconst 2, 1) := by decide +kernel
theorem dL_law_511 : decode cL_law 511 = .ok (.iadd, 1) := by decide +kernel
theorem dL_law_512 : decode cL_law 512 = .ok (.iaload, 1) := by decide +kernel
theorem dL_law_513 : decode cL_law 513 = .ok (.aload_n 3, 1) := by decide +kernel
theorem dL_law_514 : decode cL_law 514 = .ok (.invokestatic 121, 3) := by decide +kernel
theorem dL_law_517 : decode cL_law 517 = .ok (.istore 5, 2) := by decide +kernel
theorem dL_law_519 : decode cL_law 519 = .ok (.aload_n 2, 1) := by decide +kernel
theorem dL_law_520 : decode cL_law 520 = .ok (.aload_n 0, 1) := by decide +kernel
theorem dL_law_521 : decode cL_law 521 = .ok (.iload 4, 2) := by decide +kernel
theorem dL_law_523 : decode cL_law 523 = .ok (.iconst 1, 1) := by decide +kernel
theorem dL_law_524 : decode cL_law 524 = .ok (.iadd, 1) := by decide +kernel
theorem dL_law_525 : decode cL_law 525 = .ok (.iaload, 1) := by decide +kernel
theorem dL_law_526 : decode cL_law 526 = .ok (.aload_n 0, 1) := by decide +kernel
theorem dL_law_527 : decode cL_law 527 = .ok (.iload 4, 2) := by decide +kernel
theorem dL_law_529 : decode cL_law 529 = .ok (.iconst 2, 1) := by decide +kernel
theorem dL_law_530 : decode cL_law 530 = .ok (.iadd, 1) := by decide +kernel
theorem dL_law_531 : decode cL_law 531 = .ok (.iaload, 1) := by decide +kernel
theorem dL_law_532 : decode cL_law 532 = .ok (.invokevirtual 123, 3) := by decide +kernel
theorem dL_law_535 : decode cL_law 535 = .ok (.istore 6, 2) := by decide +kernel
theorem dL_law_537 : decode cL_law 537 = .ok (.aload_n 2, 1) := by decide +kernel
theorem dL_law_538 : decode cL_law 538 = .ok (.invokevirtual 99, 3) := by decide +kernel
theorem dL_law_541 : decode cL_law 541 = .ok (.iload 5, 2) := by decide +kernel
theorem dL_law_543 : decode cL_law 543 = .ok (.if_icmp .eq 5, 3) := by decide +kernel
theorem dL_law_546 : decode cL_law 546 = .ok (.iconst 0, 1) := by decide +kernel
theorem dL_law_547 : decode cL_law 547 = .ok (.ireturn, 1) := by decide +kernel
theorem dL_law_548 : decode cL_law 548 = .ok (.iload 5, 2) := by decide +kernel
theorem dL_law_550 : decode cL_law 550 = .ok (.ifCond .ne 15, 3) := by decide +kernel
theorem dL_law_553 : decode cL_law 553 = .ok (.aload_n 3, 1) := by decide +kernel
theorem dL_law_554 : decode cL_law 554 = .ok (.iconst 0, 1) := by decide +kernel
theorem dL_law_555 : decode cL_law 555 = .ok (.laload, 1) := by decide +kernel
theorem dL_law_556 : decode cL_law 556 = .ok (.iload 6, 2) := by decide +kernel
theorem dL_law_558 : decode cL_law 558 = .ok (.i2l, 1) := by decide +kernel
theorem dL_law_559 : decode cL_law 559 = .ok (.lcmp, 1) := by decide +kernel
theorem dL_law_560 : decode cL_law 560 = .ok (.ifCond .eq 5, 3) := by decide +kernel
theorem dL_law_563 : decode cL_law 563 = .ok (.iconst 0, 1) := by decide +kernel
theorem dL_law_564 : decode cL_law 564 = .ok (.ireturn, 1) := by decide +kernel
theorem dL_law_565 : decode cL_law 565 = .ok (.goto 1044, 3) := by decide +kernel
theorem dL_law_568 : decode cL_law 568 = .ok (.aload_n 1, 1) := by decide +kernel
theorem dL_law_569 : decode cL_law 569 = .ok (.aload_n 0, 1) := by decide +kernel
theorem dL_law_570 : decode cL_law 570 = .ok (.iload 4, 2) := by decide +kernel
theorem dL_law_572 : decode cL_law 572 = .ok (.iconst 1, 1) := by decide +kernel
theorem dL_law_573 : decode cL_law 573 = .ok (.iadd, 1) := by decide +kernel
theorem dL_law_574 : decode cL_law 574 = .ok (.iaload, 1) := by decide +kernel
theorem dL_law_575 : decode cL_law 575 = .ok (.aload_n 0, 1) := by decide +kernel
theorem dL_law_576 : decode cL_law 576 = .ok (.iload 4, 2) := by decide +kernel
theorem dL_law_578 : decode cL_law 578 = .ok (.iconst 2, 1) := by decide +kernel
theorem dL_law_579 : decode cL_law 579 = .ok (.iadd, 1) := by decide +kernel
theorem dL_law_580 : decode cL_law 580 = .ok (.iaload, 1) := by decide +kernel
theorem dL_law_581 : decode cL_law 581 = .ok (.aload_n 3, 1) := by decide +kernel
theorem dL_law_582 : decode cL_law 582 = .ok (.invokestatic 124, 3) := by decide +kernel
theorem dL_law_585 : decode cL_law 585 = .ok (.istore 5, 2) := by decide +kernel
theorem dL_law_587 : decode cL_law 587 = .ok (.aload_n 2, 1) := by decide +kernel
theorem dL_law_588 : decode cL_law 588 = .ok (.aload_n 0, 1) := by decide +kernel
theorem dL_law_589 : decode cL_law 589 = .ok (.iload 4, 2) := by decide +kernel
theorem dL_law_591 : decode cL_law 591 = .ok (.iconst 1, 1) := by decide +kernel
theorem dL_law_592 : decode cL_law 592 = .ok (.iadd, 1) := by decide +kernel
theorem dL_law_593 : decode cL_law 593 = .ok (.iaload, 1) := by decide +kernel
theorem dL_law_594 : decode cL_law 594 = .ok (.aload_n 0, 1) := by decide +kernel
theorem dL_law_595 : decode cL_law 595 = .ok (.iload 4, 2) := by decide +kernel
theorem dL_law_597 : decode cL_law 597 = .ok (.iconst 2, 1) := by decide +kernel
theorem dL_law_598 : decode cL_law 598 = .ok (.iadd, 1) := by decide +kernel
theorem dL_law_599 : decode cL_law 599 = .ok (.iaload, 1) := by decide +kernel
theorem dL_law_600 : decode cL_law 600 = .ok (.invokevirtual 126, 3) := by decide +kernel
theorem dL_law_603 : decode cL_law 603 = .ok (.istore 6, 2) := by decide +kernel
theorem dL_law_605 : decode cL_law 605 = .ok (.aload_n 2, 1) := by decide +kernel
theorem dL_law_606 : decode cL_law 606 = .ok (.invokevirtual 99, 3) := by decide +kernel
theorem dL_law_609 : decode cL_law 609 = .ok (.iload 5, 2) := by decide +kernel
theorem dL_law_611 : decode cL_law 611 = .ok (.if_icmp .eq 5, 3) := by decide +kernel
theorem dL_law_614 : decode cL_law 614 = .ok (.iconst 0, 1) := by decide +kernel
theorem dL_law_615 : decode cL_law 615 = .ok (.ireturn, 1) := by decide +kernel
theorem dL_law_616 : decode cL_law 616 = .ok (.iload 5, 2) := by decide +kernel
theorem dL_law_618 : decode cL_law 618 = .ok (.ifCond .ne 15, 3) := by decide +kernel
theorem dL_law_621 : decode cL_law 621 = .ok (.aload_n 3, 1) := by decide +kernel
theorem dL_law_622 : decode cL_law 622 = .ok (.iconst 0, 1) := by decide +kernel
theorem dL_law_623 : decode cL_law 623 = .ok (.laload, 1) := by decide +kernel
theorem dL_law_624 : decode cL_law 624 = .ok (.iload 6, 2) := by decide +kernel
theorem dL_law_626 : decode cL_law 626 = .ok (.i2l, 1) := by decide +kernel
theorem dL_law_627 : decode cL_law 627 = .ok (.lcmp, 1) := by decide +kernel
theorem dL_law_628 : decode cL_law 628 = .ok (.ifCond .eq 5, 3) := by decide +kernel
theorem dL_law_631 : decode cL_law 631 = .ok (.iconst 0, 1) := by decide +kernel
theorem dL_law_632 : decode cL_law 632 = .ok (.ireturn, 1) := by decide +kernel
theorem dL_law_633 : decode cL_law 633 = .ok (.goto 976, 3) := by decide +kernel
theorem dL_law_636 : decode cL_law 636 = .ok (.aload_n 1, 1) := by decide +kernel
theorem dL_law_637 : decode cL_law 637 = .ok (.aload_n 0, 1) := by decide +kernel
theorem dL_law_638 : decode cL_law 638 = .ok (.iload 4, 2) := by decide +kernel
theorem dL_law_640 : decode cL_law 640 = .ok (.iconst 1, 1) := by decide +kernel
theorem dL_law_641 : decode cL_law 641 = .ok (.iadd, 1) := by decide +kernel
theorem dL_law_642 : decode cL_law 642 = .ok (.iaload, 1) := by decide +kernel
theorem dL_law_643 : decode cL_law 643 = .ok (.aload_n 0, 1) := by decide +kernel
theorem dL_law_644 : decode cL_law 644 = .ok (.iload 4, 2) := by decide +kernel
theorem dL_law_646 : decode cL_law 646 = .ok (.iconst 2, 1) := by decide +kernel
theorem dL_law_647 : decode cL_law 647 = .ok (.iadd, 1) := by decide +kernel
theorem dL_law_648 : decode cL_law 648 = .ok (.iaload, 1) := by decide +kernel
theorem dL_law_649 : decode cL_law 649 = .ok (.aload_n 0, 1) := by decide +kernel
theorem dL_law_650 : decode cL_law 650 = .ok (.iload 4, 2) := by decide +kernel
theorem dL_law_652 : decode cL_law 652 = .ok (.iconst 3, 1) := by decide +kernel
theorem dL_law_653 : decode cL_law 653 = .ok (.iadd, 1) := by decide +kernel
theorem dL_law_654 : decode cL_law 654 = .ok (.iaload, 1) := by decide +kernel
theorem dL_law_655 : decode cL_law 655 = .ok (.aload_n 3, 1) := by decide +kernel
theorem dL_law_656 : decode cL_law 656 = .ok (.invokestatic 127, 3) := by decide +kernel
theorem dL_law_659 : decode cL_law 659 = .ok (.istore 5, 2) := by decide +kernel
theorem dL_law_661 : decode cL_law 661 = .ok (.aload_n 2, 1) := by decide +kernel
theorem dL_law_662 : decode cL_law 662 = .ok (.aload_n 0, 1) := by decide +kernel
theorem dL_law_663 : decode cL_law 663 = .ok (.iload 4, 2) := by decide +kernel
theorem dL_law_665 : decode cL_law 665 = .ok (.iconst 1, 1) := by decide +kernel
theorem dL_law_666 : decode cL_law 666 = .ok (.iadd, 1) := by decide +kernel
theorem dL_law_667 : decode cL_law 667 = .ok (.iaload, 1) := by decide +kernel
theorem dL_law_668 : decode cL_law 668 = .ok (.aload_n 0, 1) := by decide +kernel
theorem dL_law_669 : decode cL_law 669 = .ok (.iload 4, 2) := by decide +kernel
theorem dL_law_671 : decode cL_law 671 = .ok (.iconst 2, 1) := by decide +kernel
theorem dL_law_672 : decode cL_law 672 = .ok (.iadd, 1) := by decide +kernel
theorem dL_law_673 : decode cL_law 673 = .ok (.iaload, 1) := by decide +kernel
theorem dL_law_674 : decode cL_law 674 = .ok (.aload_n 0, 1) := by decide +kernel
theorem dL_law_675 : decode cL_law 675 = .ok (.iload 4, 2) := by decide +kernel
theorem dL_law_677 : decode cL_law 677 = .ok (.iconst 3, 1) := by decide +kernel
theorem dL_law_678 : decode cL_law 678 = .ok (.iadd, 1) := by decide +kernel
theorem dL_law_679 : decode cL_law 679 = .ok (.iaload, 1) := by decide +kernel
theorem dL_law_680 : decode cL_law 680 = .ok (.invokevirtual 130, 3) := by decide +kernel
theorem dL_law_683 : decode cL_law 683 = .ok (.istore 6, 2) := by decide +kernel
theorem dL_law_685 : decode cL_law 685 = .ok (.aload_n 2, 1) := by decide +kernel
theorem dL_law_686 : decode cL_law 686 = .ok (.invokevirtual 99, 3) := by decide +kernel
theorem dL_law_689 : decode cL_law 689 = .ok (.iload 5, 2) := by decide +kernel
theorem dL_law_691 : decode cL_law 691 = .ok (.if_icmp .eq 5, 3) := by decide +kernel
theorem dL_law_694 : decode cL_law 694 = .ok (.iconst 0, 1) := by decide +kernel
