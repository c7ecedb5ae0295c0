theorem dL_meeting_1 : decode cL_meeting 1 = .ok (.iload_n 1, 1) := by decide +kernel
theorem dL_meeting_2 : decode cL_meeting 2 = .ok (.iload_n 2, 1) := by decide +kernel
theorem dL_meeting_3 : decode cL_meeting 3 = .ok (.invokevirtual 40, 3) := by decide +kernel
theorem dL_meeting_6 : decode cL_meeting 6 = .ok (.ireturn, 1) := by decide +kernel
theorem dL_meeting_7 : decode cL_meeting 7 = .ok (.astore_n 3, 1) := by decide +kernel
theorem dL_meeting_8 : decode cL_meeting 8 = .ok (.ldc 35, 2) := by decide +kernel
theorem dL_meeting_10 : decode cL_meeting 10 = .ok (.ireturn, 1) := by decide +kernel
theorem dL_meeting_11 : decode cL_meeting 11 = .ok (.astore_n 3, 1) := by decide +kernel
theorem dL_meeting_12 : decode cL_meeting 12 = .ok (.ldc 35, 2) := by decide +kernel
theorem dL_meeting_14 : decode cL_meeting 14 = .ok (.ireturn, 1) := by decide +kernel
theorem dL_meeting_15 : decode cL_meeting 15 = .ok (.astore_n 3, 1) := by decide +kernel
theorem dL_meeting_16 : decode cL_meeting 16 = .ok (.ldc 43, 2) := by decide +kernel
theorem dL_meeting_18 : decode cL_meeting 18 = .ok (.ireturn, 1) := by decide +kernel
set_option maxRecDepth 20000 in
theorem ggL_act_L_low : GoodIn wsL_act wsL_low := goodIn_r _ [4, 5] (by decide +kernel) (by decide +kernel)
set_option maxRecDepth 20000 in
theorem gL_act_L_low : GoodIn wsL_act (va_wsS RL 44 yL_low wsL_low) := goodIn_app (goodIn_of _ (by decide +kernel)) ggL_act_L_low
set_option maxRecDepth 20000 in
theorem ggL_act_L_addMarket : GoodIn wsL_act wsL_addMarket := goodIn_ca (goodIn_ca (goodIn_r _ [8, 9, 10, 11, 12, 13, 14, 15, 16, 17, 18, 19, 20, 21, 22, 23, 24, 25, 26, 27, 28, 29, 30, 31, 32, 33, 88, 89, 90, 91, 92, 93, 94, 95, 96, 97] (by decide +kernel) (by decide +kernel)) (goodIn_sub (fun _ h => List.mem_cons_of_mem _ (List.mem_append_left _ (List.mem_append_left _ (List.mem_append_right _ h)))) (by decide +kernel))) (goodIn_sub (fun _ h => List.mem_cons_of_mem _ (List.mem_append_left _ (List.mem_append_right _ h))) (by decide +kernel))
set_option maxRecDepth 20000 in
theorem gL_act_L_addMarket : GoodIn wsL_act (va_wsS RL 49 yL_addMarket wsL_addMarket) := goodIn_app (goodIn_of _ (by decide +kernel)) ggL_act_L_addMarket
set_option maxRecDepth 20000 in
theorem ggL_act_X0_markets : GoodIn wsL_act wsX0_markets := goodIn_r _ [37, 19, 88, 89, 90, 91, 92, 93, 94, 95, 96, 97] (by decide +kernel) (by decide +kernel)
set_option maxRecDepth 20000 in
theorem gL_act_X0_markets : GoodIn wsL_act (wsV RL 52 RX0 yX0_markets wsX0_markets) := goodIn_app (goodIn_of _ (by decide +kernel)) ggL_act_X0_markets
set_option maxRecDepth 20000 in
theorem ggL_act_L_shift : GoodIn wsL_act wsL_shift := goodIn_ca (goodIn_ca (goodIn_r _ [40, 41, 9, 11, 42, 43, 44, 15, 45, 21, 46, 47, 48, 49, 50, 51, 19, 22, 23, 24, 25, 26, 27, 28, 29, 52, 53, 54, 55, 30, 31, 32, 33, 20, 56, 57, 58, 59, 60, 61, 62, 63, 64, 65, 66, 88, 89, 90, 91, 92, 93, 94, 95, 96, 97] (by decide +kernel) (by decide +kernel)) (goodIn_sub (fun _ h => List.mem_cons_of_mem _ (List.mem_append_right _ h)) (by decide +kernel))) (goodIn_sub (fun _ h => List.mem_cons_of_mem _ (List.mem_append_left _ (List.mem_append_right _ h))) (by decide +kernel))
set_option maxRecDepth 20000 in
theorem gL_act_L_shift : GoodIn wsL_act (va_wsS RL 56 yL_shift wsL_shift) := goodIn_app (goodIn_of _ (by decide +kernel)) ggL_act_L_shift
set_option maxRecDepth 20000 in
theorem ggL_act_L_setMoon : GoodIn wsL_act wsL_setMoon := goodIn_ca (goodIn_r _ [69, 9, 11, 70, 71, 72, 15, 73, 74, 75, 76, 22, 23, 24, 25, 26, 27, 28, 29, 88, 89, 90, 91, 92, 93, 94, 95, 96, 97] (by decide +kernel) (by decide +kernel)) (goodIn_sub (fun _ h => List.mem_cons_of_mem _ (List.mem_append_left _ (List.mem_append_right _ h))) (by decide +kernel))
set_option maxRecDepth 20000 in
theorem gL_act_L_setMoon : GoodIn wsL_act (va_wsS RL 58 yL_setMoon wsL_setMoon) := goodIn_app (goodIn_of _ (by decide +kernel)) ggL_act_L_setMoon
set_option maxRecDepth 20000 in
theorem ggL_act_L_setYear : GoodIn wsL_act wsL_setYear := goodIn_ca (goodIn_r _ [79, 9, 11, 80, 81, 82, 15, 83, 84, 85, 86, 87, 22, 23, 24, 25, 26, 27, 28, 29, 88, 89, 90, 91, 92, 93, 94, 95, 96, 97] (by decide +kernel) (by decide +kernel)) (goodIn_sub (fun _ h => List.mem_cons_of_mem _ (List.mem_append_left _ (List.mem_append_right _ h))) (by decide +kernel))
set_option maxRecDepth 20000 in
theorem gL_act_L_setYear : GoodIn wsL_act (va_wsS RL 61 yL_setYear wsL_setYear) := goodIn_app (goodIn_of _ (by decide +kernel)) ggL_act_L_setYear
theorem dL_act_0 : decode cL_act 0 = .ok (.iload_n 1, 1) := by decide +kernel
theorem dL_act_1 : decode cL_act 1 = .ok (.bipush 24, 2) := by decide +kernel
theorem dL_act_3 : decode cL_act 3 = .ok (.ishr, 1) := by decide +kernel
theorem dL_act_4 : decode cL_act 4 = .ok (.bipush 9, 2) := by decide +kernel
theorem dL_act_6 : decode cL_act 6 = .ok (.invokestatic 44, 3) := by decide +kernel
theorem dL_act_9 : decode cL_act 9 = .ok (.ifCond .ne 7, 3) := by decide +kernel
theorem dL_act_12 : decode cL_act 12 = .ok (.iconst 1, 1) := by decide +kernel
theorem dL_act_13 : decode cL_act 13 = .ok (.goto 4, 3) := by decide +kernel
theorem dL_act_16 : decode cL_act 16 = .ok (.iconst 0, 1) := by decide +kernel
theorem dL_act_17 : decode cL_act 17 = .ok (.istore_n 2, 1) := by decide +kernel
theorem dL_act_18 : decode cL_act 18 = .ok (.iconst 1, 1) := by decide +kernel
theorem dL_act_19 : decode cL_act 19 = .ok (.iload_n 1, 1) := by decide +kernel
theorem dL_act_20 : decode cL_act 20 = .ok (.iconst 4, 1) := by decide +kernel
theorem dL_act_21 : decode cL_act 21 = .ok (.ishr, 1) := by decide +kernel
theorem dL_act_22 : decode cL_act 22 = .ok (.iload_n 2, 1) := by decide +kernel
theorem dL_act_23 : decode cL_act 23 = .ok (.ifCond .eq 8, 3) := by decide +kernel
theorem dL_act_26 : decode cL_act 26 = .ok (.bipush 62, 2) := by decide +kernel
theorem dL_act_28 : decode cL_act 28 = .ok (.goto 14, 3) := by decide +kernel
theorem dL_act_31 : decode cL_act 31 = .ok (.iconst 1, 1) := by decide +kernel
theorem dL_act_32 : decode cL_act 32 = .ok (.iload_n 1, 1) := by decide +kernel
theorem dL_act_33 : decode cL_act 33 = .ok (.bipush 14, 2) := by decide +kernel
theorem dL_act_35 : decode cL_act 35 = .ok (.ishr, 1) := by decide +kernel
theorem dL_act_36 : decode cL_act 36 = .ok (.bipush 59, 2) := by decide +kernel
theorem dL_act_38 : decode cL_act 38 = .ok (.invokestatic 44, 3) := by decide +kernel
theorem dL_act_41 : decode cL_act 41 = .ok (.iadd, 1) := by decide +kernel
theorem dL_act_42 : decode cL_act 42 = .ok (.invokestatic 44, 3) := by decide +kernel
theorem dL_act_45 : decode cL_act 45 = .ok (.iadd, 1) := by decide +kernel
theorem dL_act_46 : decode cL_act 46 = .ok (.istore_n 3, 1) := by decide +kernel
theorem dL_act_47 : decode cL_act 47 = .ok (.iload_n 1, 1) := by decide +kernel
theorem dL_act_48 : decode cL_act 48 = .ok (.bipush 7, 2) := by decide +kernel
theorem dL_act_50 : decode cL_act 50 = .ok (.invokestatic 44, 3) := by decide +kernel
theorem dL_act_53 : decode cL_act 53 = .ok (.tableswitch 272 0 5 #[39, 39, 39, 63, 111, 191], 39) := by decide +kernel
theorem dL_act_92 : decode cL_act 92 = .ok (.aload_n 0, 1) := by decide +kernel
theorem dL_act_93 : decode cL_act 93 = .ok (.iload_n 3, 1) := by decide +kernel
theorem dL_act_94 : decode cL_act 94 = .ok (.iload_n 1, 1) := by decide +kernel
theorem dL_act_95 : decode cL_act 95 = .ok (.bipush 9, 2) := by decide +kernel
theorem dL_act_97 : decode cL_act 97 = .ok (.ishr, 1) := by decide +kernel
theorem dL_act_98 : decode cL_act 98 = .ok (.iload_n 3, 1) := by decide +kernel
theorem dL_act_99 : decode cL_act 99 = .ok (.iload_n 2, 1) := by decide +kernel
theorem dL_act_100 : decode cL_act 100 = .ok (.ifCond .eq 7, 3) := by decide +kernel
theorem dL_act_103 : decode cL_act 103 = .ok (.iconst 1, 1) := by decide +kernel
theorem dL_act_104 : decode cL_act 104 = .ok (.goto 4, 3) := by decide +kernel
theorem dL_act_107 : decode cL_act 107 = .ok (.iconst 0, 1) := by decide +kernel
theorem dL_act_108 : decode cL_act 108 = .ok (.iadd, 1) := by decide +kernel
theorem dL_act_109 : decode cL_act 109 = .ok (.invokestatic 44, 3) := by decide +kernel
theorem dL_act_112 : decode cL_act 112 = .ok (.invokestatic 49, 3) := by decide +kernel
theorem dL_act_115 : decode cL_act 115 = .ok (.ireturn, 1) := by decide +kernel
theorem dL_act_116 : decode cL_act 116 = .ok (.aload_n 0, 1) := by decide +kernel
theorem dL_act_117 : decode cL_act 117 = .ok (.iload_n 1, 1) := by decide +kernel
theorem dL_act_118 : decode cL_act 118 = .ok (.iconst 5, 1) := by decide +kernel
theorem dL_act_119 : decode cL_act 119 = .ok (.ishr, 1) := by decide +kernel
theorem dL_act_120 : decode cL_act 120 = .ok (.iload_n 2, 1) := by decide +kernel
theorem dL_act_121 : decode cL_act 121 = .ok (.ifCond .eq 8, 3) := by decide +kernel
theorem dL_act_124 : decode cL_act 124 = .ok (.bipush 17, 2) := by decide +kernel
theorem dL_act_126 : decode cL_act 126 = .ok (.goto 9, 3) := by decide +kernel
theorem dL_act_129 : decode cL_act 129 = .ok (.aload_n 0, 1) := by decide +kernel
theorem dL_act_130 : decode cL_act 130 = .ok (.invokevirtual 52, 3) := by decide +kernel
theorem dL_act_133 : decode cL_act 133 = .ok (.iconst 1, 1) := by decide +kernel
theorem dL_act_134 : decode cL_act 134 = .ok (.iadd, 1) := by decide +kernel
theorem dL_act_135 : decode cL_act 135 = .ok (.invokestatic 44, 3) := by decide +kernel
theorem dL_act_138 : decode cL_act 138 = .ok (.iload_n 1, 1) := by decide +kernel
theorem dL_act_139 : decode cL_act 139 = .ok (.bipush 9, 2) := by decide +kernel
theorem dL_act_141 : decode cL_act 141 = .ok (.ishr, 1) := by decide +kernel
theorem dL_act_142 : decode cL_act 142 = .ok (.iload_n 2, 1) := by decide +kernel
theorem dL_act_143 : decode cL_act 143 = .ok (.ifCond .eq 9, 3) := by decide +kernel
theorem dL_act_146 : decode cL_act 146 = .ok (.sipush 140, 3) := by decide +kernel
theorem dL_act_149 : decode cL_act 149 = .ok (.goto 5, 3) := by decide +kernel
theorem dL_act_152 : decode cL_act 152 = .ok (.bipush 121, 2) := by decide +kernel
theorem dL_act_154 : decode cL_act 154 = .ok (.invokestatic 44, 3) := by decide +kernel
theorem dL_act_157 : decode cL_act 157 = .ok (.bipush 60, 2) := by decide +kernel
theorem dL_act_159 : decode cL_act 159 = .ok (.isub, 1) := by decide +kernel
theorem dL_act_160 : decode cL_act 160 = .ok (.invokestatic 56, 3) := by decide +kernel
theorem dL_act_163 : decode cL_act 163 = .ok (.ireturn, 1) := by decide +kernel
theorem dL_act_164 : decode cL_act 164 = .ok (.aload_n 0, 1) := by decide +kernel
theorem dL_act_165 : decode cL_act 165 = .ok (.iconst 1, 1) := by decide +kernel
theorem dL_act_166 : decode cL_act 166 = .ok (.iload_n 1, 1) := by decide +kernel
theorem dL_act_167 : decode cL_act 167 = .ok (.bipush 7, 2) := by decide +kernel
theorem dL_act_169 : decode cL_act 169 = .ok (.ishr, 1) := by decide +kernel
theorem dL_act_170 : decode cL_act 170 = .ok (.bipush 100, 2) := by decide +kernel
theorem dL_act_172 : decode cL_act 172 = .ok (.invokestatic 44, 3) := by decide +kernel
theorem dL_act_175 : decode cL_act 175 = .ok (.iadd, 1) := by decide +kernel
theorem dL_act_176 : decode cL_act 176 = .ok (.iload_n 2, 1) := by decide +kernel
theorem dL_act_177 : decode cL_act 177 = .ok (.ifCond .eq 7, 3) := by decide +kernel
theorem dL_act_180 : decode cL_act 180 = .ok (.iconst 1, 1) := by decide +kernel
theorem dL_act_181 : decode cL_act 181 = .ok (.goto 4, 3) := by decide +kernel
theorem dL_act_184 : decode cL_act 184 = .ok (.iconst 2, 1) := by decide +kernel
theorem dL_act_185 : decode cL_act 185 = .ok (.imul, 1) := by decide +kernel
theorem dL_act_186 : decode cL_act 186 = .ok (.iload_n 1, 1) := by decide +kernel
theorem dL_act_187 : decode cL_act 187 = .ok (.iconst 3, 1) := by decide +kernel
theorem dL_act_188 : decode cL_act 188 = .ok (.ishr, 1) := by decide +kernel
theorem dL_act_189 : decode cL_act 189 = .ok (.sipush 400, 3) := by decide +kernel
theorem dL_act_192 : decode cL_act 192 = .ok (.invokestatic 44, 3) := by decide +kernel
theorem dL_act_195 : decode cL_act 195 = .ok (.iadd, 1) := by decide +kernel
theorem dL_act_196 : decode cL_act 196 = .ok (.iconst 1, 1) := by decide +kernel
theorem dL_act_197 : decode cL_act 197 = .ok (.iload_n 1, 1) := by decide +kernel
theorem dL_act_198 : decode cL_act 198 = .ok (.bipush 7, 2) := by decide +kernel
theorem dL_act_200 : decode cL_act 200 = .ok (.ishr, 1) := by decide +kernel
theorem dL_act_201 : decode cL_act 201 = .ok (.iload_n 2, 1) := by decide +kernel
theorem dL_act_202 : decode cL_act 202 = .ok (.ifCond .eq 8, 3) := by decide +kernel
theorem dL_act_205 : decode cL_act 205 = .ok (.bipush 101, 2) := by decide +kernel
theorem dL_act_207 : decode cL_act 207 = .ok (.goto 5, 3) := by decide +kernel
theorem dL_act_210 : decode cL_act 210 = .ok (.bipush 100, 2) := by decide +kernel
theorem dL_act_212 : decode cL_act 212 = .ok (.invokestatic 44, 3) := by decide +kernel
theorem dL_act_215 : decode cL_act 215 = .ok (.iadd, 1) := by decide +kernel
theorem dL_act_216 : decode cL_act 216 = .ok (.iload_n 1, 1) := by decide +kernel
theorem dL_act_217 : decode cL_act 217 = .ok (.bipush 11, 2) := by decide +kernel
theorem dL_act_219 : decode cL_act 219 = .ok (.ishr, 1) := by decide +kernel
theorem dL_act_220 : decode cL_act 220 = .ok (.iload_n 2, 1) := by decide +kernel
theorem dL_act_221 : decode cL_act 221 = .ok (.ifCond .eq 9, 3) := by decide +kernel
theorem dL_act_224 : decode cL_act 224 = .ok (.sipush 2100, 3) := by decide +kernel
theorem dL_act_227 : decode cL_act 227 = .ok (.goto 6, 3) := by decide +kernel
theorem dL_act_230 : decode cL_act 230 = .ok (.sipush 2001, 3) := by decide +kernel
theorem dL_act_233 : decode cL_act 233 = .ok (.invokestatic 44, 3) := by decide +kernel
theorem dL_act_236 : decode cL_act 236 = .ok (.sipush 1000, 3) := by decide +kernel
theorem dL_act_239 : decode cL_act 239 = .ok (.isub, 1) := by decide +kernel
theorem dL_act_240 : decode cL_act 240 = .ok (.invokestatic 58, 3) := by decide +kernel
theorem dL_act_243 : decode cL_act 243 = .ok (.ireturn, 1) := by decide +kernel
theorem dL_act_244 : decode cL_act 244 = .ok (.iconst 1, 1) := by decide +kernel
theorem dL_act_245 : decode cL_act 245 = .ok (.iload_n 1, 1) := by decide +kernel
theorem dL_act_246 : decode cL_act 246 = .ok (.iconst 5, 1) := by decide +kernel
theorem dL_act_247 : decode cL_act 247 = .ok (.ishr, 1) := by decide +kernel
theorem dL_act_248 : decode cL_act 248 = .ok (.iload_n 2, 1) := by decide +kernel
theorem dL_act_249 : decode cL_act 249 = .ok (.ifCond .eq 9, 3) := by decide +kernel
theorem dL_act_252 : decode cL_act 252 = .ok (.sipush 402, 3) := by decide +kernel
theorem dL_act_255 : decode cL_act 255 = .ok (.goto 6, 3) := by decide +kernel
theorem dL_act_258 : decode cL_act 258 = .ok (.sipush 400, 3) := by decide +kernel
theorem dL_act_261 : decode cL_act 261 = .ok (.invokestatic 44, 3) := by decide +kernel
theorem dL_act_264 : decode cL_act 264 = .ok (.iadd, 1) := by decide +kernel
theorem dL_act_265 : decode cL_act 265 = .ok (.istore 4, 2) := by decide +kernel
theorem dL_act_267 : decode cL_act 267 = .ok (.aload_n 0, 1) := by decide +kernel
theorem dL_act_268 : decode cL_act 268 = .ok (.bipush 100, 2) := by decide +kernel
theorem dL_act_270 : decode cL_act 270 = .ok (.iload_n 1, 1) := by decide +kernel
theorem dL_act_271 : decode cL_act 271 = .ok (.bipush 9, 2) := by decide +kernel
theorem dL_act_273 : decode cL_act 273 = .ok (.ishr, 1) := by decide +kernel
theorem dL_act_274 : decode cL_act 274 = .ok (.iload_n 2, 1) := by decide +kernel
theorem dL_act_275 : decode cL_act 275 = .ok (.ifCond .eq 9, 3) := by decide +kernel
theorem dL_act_278 : decode cL_act 278 = .ok (.sipush 410, 3) := by decide +kernel
theorem dL_act_281 : decode cL_act 281 = .ok (.goto 6, 3) := by decide +kernel
theorem dL_act_284 : decode cL_act 284 = .ok (.sipush 401, 3) := by decide +kernel
theorem dL_act_287 : decode cL_act 287 = .ok (.invokestatic 44, 3) := by decide +kernel
theorem dL_act_290 : decode cL_act 290 = .ok (.iadd, 1) := by decide +kernel
theorem dL_act_291 : decode cL_act 291 = .ok (.iload_n 1, 1) := by decide +kernel
theorem dL_act_292 : decode cL_act 292 = .ok (.bipush 12, 2) := by decide +kernel
theorem dL_act_294 : decode cL_act 294 = .ok (.ishr, 1) := by decide +kernel
theorem dL_act_295 : decode cL_act 295 = .ok (.iload 4, 2) := by decide +kernel
theorem dL_act_297 : decode cL_act 297 = .ok (.iload_n 2, 1) := by decide +kernel
theorem dL_act_298 : decode cL_act 298 = .ok (.ifCond .eq 7, 3) := by decide +kernel
theorem dL_act_301 : decode cL_act 301 = .ok (.iconst 2, 1) := by decide +kernel
theorem dL_act_302 : decode cL_act 302 = .ok (.goto 4, 3) := by decide +kernel
theorem dL_act_305 : decode cL_act 305 = .ok (.iconst 1, 1) := by decide +kernel
theorem dL_act_306 : decode cL_act 306 = .ok (.iadd, 1) := by decide +kernel
theorem dL_act_307 : decode cL_act 307 = .ok (.invokestatic 44, 3) := by decide +kernel
theorem dL_act_310 : decode cL_act 310 = .ok (.iload_n 1, 1) := by decide +kernel
theorem dL_act_311 : decode cL_act 311 = .ok (.bipush 15, 2) := by decide +kernel
theorem dL_act_313 : decode cL_act 313 = .ok (.ishr, 1) := by decide +kernel
theorem dL_act_314 : decode cL_act 314 = .ok (.iload 4, 2) := by decide +kernel
theorem dL_act_316 : decode cL_act 316 = .ok (.invokestatic 44, 3) := by decide +kernel
theorem dL_act_319 : decode cL_act 319 = .ok (.iload 4, 2) := by decide +kernel
theorem dL_act_321 : decode cL_act 321 = .ok (.invokestatic 61, 3) := by decide +kernel
theorem dL_act_324 : decode cL_act 324 = .ok (.ireturn, 1) := by decide +kernel
theorem dL_act_325 : decode cL_act 325 = .ok (.aload_n 0, 1) := by decide +kernel
theorem dL_act_326 : decode cL_act 326 = .ok (.sipush 365, 3) := by decide +kernel
theorem dL_act_329 : decode cL_act 329 = .ok (.iload_n 2, 1) := by decide +kernel
theorem dL_act_330 : decode cL_act 330 = .ok (.ifCond .eq 7, 3) := by decide +kernel
theorem dL_act_333 : decode cL_act 333 = .ok (.iconst (-1), 1) := by decide +kernel
theorem dL_act_334 : decode cL_act 334 = .ok (.goto 5, 3) := by decide +kernel
theorem dL_act_337 : decode cL_act 337 = .ok (.bipush 97, 2) := by decide +kernel
theorem dL_act_339 : decode cL_act 339 = .ok (.iconst 0, 1) := by decide +kernel
theorem dL_act_340 : decode cL_act 340 = .ok (.sipush 400, 3) := by decide +kernel
theorem dL_act_343 : decode cL_act 343 = .ok (.invokestatic 61, 3) := by decide +kernel
theorem dL_act_346 : decode cL_act 346 = .ok (.ireturn, 1) := by decide +kernel
set_option maxRecDepth 20000 in
theorem ggL_areAlike_X0_markets : GoodIn wsL_areAlike wsX0_markets := goodIn_r _ [5, 6, 98, 99, 100, 101, 102, 103, 104, 105, 106, 107] (by decide +kernel) (by decide +kernel)
set_option maxRecDepth 20000 in
theorem gL_areAlike_X0_markets : GoodIn wsL_areAlike (wsV RL 52 RX0 yX0_markets wsX0_markets) := goodIn_app (goodIn_of _ (by decide +kernel)) ggL_areAlike_X0_markets
set_option maxRecDepth 20000 in
theorem ggL_areAlike_X0_heldOn : GoodIn wsL_areAlike wsX0_heldOn := goodIn_ca (goodIn_r _ [10, 11, 12, 4, 13, 14, 15, 16, 17, 18, 19, 20, 21, 22, 23, 24, 25, 26, 27, 6, 28, 29, 30, 31, 32, 33, 34, 35, 36, 37, 38, 39, 40, 41, 42, 43, 44, 45, 46, 47, 48, 49, 50, 51, 52, 98, 99, 100, 101, 102, 103, 104, 105, 106, 107] (by decide +kernel) (by decide +kernel)) (goodIn_sub (fun _ h => List.mem_cons_of_mem _ (List.mem_append_right _ h)) (by decide +kernel))
set_option maxRecDepth 20000 in
theorem gL_areAlike_X0_heldOn : GoodIn wsL_areAlike (wsV RL 64 RX0 yX0_heldOn wsX0_heldOn) := goodIn_app (goodIn_of _ (by decide +kernel)) ggL_areAlike_X0_heldOn
set_option maxRecDepth 20000 in
theorem ggL_areAlike_X0_month : GoodIn wsL_areAlike wsX0_month := goodIn_ca (goodIn_r _ [56, 57, 11, 12, 4, 13, 14, 15, 16, 17, 18, 19, 20, 21, 22, 23, 58, 59, 60, 61, 62, 63, 64, 65, 66, 67, 68, 47, 69, 98, 99, 100, 101, 102, 103, 104, 105, 106, 107] (by decide +kernel) (by decide +kernel)) (goodIn_sub (fun _ h => List.mem_cons_of_mem _ (List.mem_append_right _ h)) (by decide +kernel))
set_option maxRecDepth 20000 in
theorem gL_areAlike_X0_month : GoodIn wsL_areAlike (wsV RL 67 RX0 yX0_month wsX0_month) := goodIn_app (goodIn_of _ (by decide +kernel)) ggL_areAlike_X0_month
set_option maxRecDepth 20000 in
theorem ggL_areAlike_X0_lunarDay : GoodIn wsL_areAlike wsX0_lunarDay := goodIn_ca (goodIn_r _ [73, 11, 12, 4, 13, 14, 15, 16, 17, 18, 19, 20, 21, 22, 23, 74, 75, 76, 77, 57, 63, 58, 59, 60, 61, 62, 42, 43, 44, 45, 46, 47, 48, 64, 65, 66, 67, 68, 69, 98, 99, 100, 101, 102, 103, 104, 105, 106, 107] (by decide +kernel) (by decide +kernel)) (goodIn_sub (fun _ h => List.mem_cons_of_mem _ (List.mem_append_right _ h)) (by decide +kernel))
set_option maxRecDepth 20000 in
theorem gL_areAlike_X0_lunarDay : GoodIn wsL_areAlike (wsV RL 70 RX0 yX0_lunarDay wsX0_lunarDay) := goodIn_app (goodIn_of _ (by decide +kernel)) ggL_areAlike_X0_lunarDay
set_option maxRecDepth 20000 in
theorem ggL_areAlike_X0_year : GoodIn wsL_areAlike wsX0_year := goodIn_ca (goodIn_r _ [81, 11, 12, 4, 13, 14, 15, 16, 17, 18, 19, 20, 21, 22, 23, 82, 83, 84, 85, 86, 87, 88, 89, 64, 65, 66, 67, 68, 47, 69, 98, 99, 100, 101, 102, 103, 104, 105, 106, 107] (by decide +kernel) (by decide +kernel)) (goodIn_sub (fun _ h => List.mem_cons_of_mem _ (List.mem_append_right _ h)) (by decide +kernel))
set_option maxRecDepth 20000 in
theorem gL_areAlike_X0_year : GoodIn wsL_areAlike (wsV RL 73 RX0 yX0_year wsX0_year) := goodIn_app (goodIn_of _ (by decide +kernel)) ggL_areAlike_X0_year
set_option maxRecDepth 20000 in
theorem ggL_areAlike_X0_placeInYear : GoodIn wsL_areAlike wsX0_placeInYear := goodIn_ca (goodIn_r _ [93, 11, 12, 4, 13, 14, 15, 16, 17, 18, 19, 20, 21, 22, 23, 82, 83, 84, 85, 86, 87, 88, 89, 64, 65, 66, 67, 68, 47, 69, 94, 95, 96, 97, 98, 99, 100, 101, 102, 103, 104, 105, 106, 107] (by decide +kernel) (by decide +kernel)) (goodIn_sub (fun _ h => List.mem_cons_of_mem _ (List.mem_append_right _ h)) (by decide +kernel))
set_option maxRecDepth 20000 in
theorem gL_areAlike_X0_placeInYear : GoodIn wsL_areAlike (wsV RL 76 RX0 yX0_placeInYear wsX0_placeInYear) := goodIn_app (goodIn_of _ (by decide +kernel)) ggL_areAlike_X0_placeInYear
theorem dL_areAlike_0 : decode cL_areAlike 0 = .ok (.aload_n 0, 1) := by decide +kernel
theorem dL_areAlike_1 : decode cL_areAlike 1 = .ok (.invokevirtual 52, 3) := by decide +kernel
theorem dL_areAlike_4 : decode cL_areAlike 4 = .ok (.aload_n 1, 1) := by decide +kernel
theorem dL_areAlike_5 : decode cL_areAlike 5 = .ok (.invokevirtual 52, 3) := by decide +kernel
theorem dL_areAlike_8 : decode cL_areAlike 8 = .ok (.if_icmp .ne 72, 3) := by decide +kernel
theorem dL_areAlike_11 : decode cL_areAlike 11 = .ok (.aload_n 0, 1) := by decide +kernel
theorem dL_areAlike_12 : decode cL_areAlike 12 = .ok (.iload_n 2, 1) := by decide +kernel
theorem dL_areAlike_13 : decode cL_areAlike 13 = .ok (.invokevirtual 64, 3) := by decide +kernel
theorem dL_areAlike_16 : decode cL_areAlike 16 = .ok (.aload_n 1, 1) := by decide +kernel
theorem dL_areAlike_17 : decode cL_areAlike 17 = .ok (.iload_n 2, 1) := by decide +kernel
theorem dL_areAlike_18 : decode cL_areAlike 18 = .ok (.invokevirtual 64, 3) := by decide +kernel
theorem dL_areAlike_21 : decode cL_areAlike 21 = .ok (.if_icmp .ne 59, 3) := by decide +kernel
theorem dL_areAlike_24 : decode cL_areAlike 24 = .ok (.aload_n 0, 1) := by decide +kernel
theorem dL_areAlike_25 : decode cL_areAlike 25 = .ok (.iload_n 2, 1) := by decide +kernel
theorem dL_areAlike_26 : decode cL_areAlike 26 = .ok (.invokevirtual 67, 3) := by decide +kernel
theorem dL_areAlike_29 : decode cL_areAlike 29 = .ok (.aload_n 1, 1) := by decide +kernel
theorem dL_areAlike_30 : decode cL_areAlike 30 = .ok (.iload_n 2, 1) := by decide +kernel
theorem dL_areAlike_31 : decode cL_areAlike 31 = .ok (.invokevirtual 67, 3) := by decide +kernel
theorem dL_areAlike_34 : decode cL_areAlike 34 = .ok (.if_icmp .ne 46, 3) := by decide +kernel
theorem dL_areAlike_37 : decode cL_areAlike 37 = .ok (.aload_n 0, 1) := by decide +kernel
theorem dL_areAlike_38 : decode cL_areAlike 38 = .ok (.iload_n 2, 1) := by decide +kernel
theorem dL_areAlike_39 : decode cL_areAlike 39 = .ok (.invokevirtual 70, 3) := by decide +kernel
theorem dL_areAlike_42 : decode cL_areAlike 42 = .ok (.aload_n 1, 1) := by decide +kernel
theorem dL_areAlike_43 : decode cL_areAlike 43 = .ok (.iload_n 2, 1) := by decide +kernel
theorem dL_areAlike_44 : decode cL_areAlike 44 = .ok (.invokevirtual 70, 3) := by decide +kernel
theorem dL_areAlike_47 : decode cL_areAlike 47 = .ok (.if_icmp .ne 33, 3) := by decide +kernel
theorem dL_areAlike_50 : decode cL_areAlike 50 = .ok (.aload_n 0, 1) := by decide +kernel
theorem dL_areAlike_51 : decode cL_areAlike 51 = .ok (.iload_n 2, 1) := by decide +kernel
theorem dL_areAlike_52 : decode cL_areAlike 52 = .ok (.invokevirtual 73, 3) := by decide +kernel
theorem dL_areAlike_55 : decode cL_areAlike 55 = .ok (.aload_n 1, 1) := by decide +kernel
theorem dL_areAlike_56 : decode cL_areAlike 56 = .ok (.iload_n 2, 1) := by decide +kernel
theorem dL_areAlike_57 : decode cL_areAlike 57 = .ok (.invokevirtual 73, 3) := by decide +kernel
theorem dL_areAlike_60 : decode cL_areAlike 60 = .ok (.if_icmp .ne 20, 3) := by decide +kernel
theorem dL_areAlike_63 : decode cL_areAlike 63 = .ok (.aload_n 0, 1) := by decide +kernel
theorem dL_areAlike_64 : decode cL_areAlike 64 = .ok (.iload_n 2, 1) := by decide +kernel
theorem dL_areAlike_65 : decode cL_areAlike 65 = .ok (.invokevirtual 76, 3) := by decide +kernel
theorem dL_areAlike_68 : decode cL_areAlike 68 = .ok (.aload_n 1, 1) := by decide +kernel
theorem dL_areAlike_69 : decode cL_areAlike 69 = .ok (.iload_n 2, 1) := by decide +kernel
theorem dL_areAlike_70 : decode cL_areAlike 70 = .ok (.invokevirtual 76, 3) := by decide +kernel
theorem dL_areAlike_73 : decode cL_areAlike 73 = .ok (.if_icmp .ne 7, 3) := by decide +kernel
theorem dL_areAlike_76 : decode cL_areAlike 76 = .ok (.iconst 1, 1) := by decide +kernel
theorem dL_areAlike_77 : decode cL_areAlike 77 = .ok (.goto 4, 3) := by decide +kernel
theorem dL_areAlike_80 : decode cL_areAlike 80 = .ok (.iconst 0, 1) := by decide +kernel
theorem dL_areAlike_81 : decode cL_areAlike 81 = .ok (.istore_n 3, 1) := by decide +kernel
theorem dL_areAlike_82 : decode cL_areAlike 82 = .ok (.iload_n 3, 1) := by decide +kernel
theorem dL_areAlike_83 : decode cL_areAlike 83 = .ok (.ireturn, 1) := by decide +kernel
set_option maxRecDepth 20000 in
theorem ggL_isMarketSo_X0_next : GoodIn wsL_isMarketSo wsX0_next := goodIn_ca (goodIn_ca (goodIn_r _ [5, 6, 7, 8, 4, 9, 10, 11, 12, 13, 14, 15, 16, 17, 18, 19, 20, 21, 22, 23, 24, 25, 26, 27, 28, 29, 30, 31, 32, 33, 34, 35, 36, 37, 38, 39, 40, 41, 42, 43, 44, 45, 46, 81, 82, 83, 84, 85, 86, 87, 88, 89, 90] (by decide +kernel) (by decide +kernel)) (goodIn_sub (fun _ h => List.mem_cons_of_mem _ (List.mem_append_left _ (List.mem_append_right _ h))) (by decide +kernel))) (goodIn_sub (fun _ h => List.mem_cons_of_mem _ (List.mem_append_right _ h)) (by decide +kernel))
set_option maxRecDepth 20000 in
theorem gL_isMarketSo_X0_next : GoodIn wsL_isMarketSo (wsV RL 79 RX0 yX0_next wsX0_next) := goodIn_app (goodIn_of _ (by decide +kernel)) ggL_isMarketSo_X0_next
set_option maxRecDepth 20000 in
theorem ggL_isMarketSo_X0_nearest : GoodIn wsL_isMarketSo wsX0_nearest := goodIn_ca (goodIn_ca (goodIn_r _ [50, 6, 7, 8, 4, 9, 10, 11, 12, 13, 14, 15, 16, 17, 18, 19, 20, 21, 22, 23, 24, 25, 36, 37, 38, 39, 35, 31, 32, 33, 34, 30, 26, 27, 28, 29, 40, 41, 42, 43, 44, 45, 46, 81, 82, 83, 84, 85, 86, 87, 88, 89, 90] (by decide +kernel) (by decide +kernel)) (goodIn_sub (fun _ h => List.mem_cons_of_mem _ (List.mem_append_left _ (List.mem_append_right _ h))) (by decide +kernel))) (goodIn_sub (fun _ h => List.mem_cons_of_mem _ (List.mem_append_right _ h)) (by decide +kernel))
set_option maxRecDepth 20000 in
theorem gL_isMarketSo_X0_nearest : GoodIn wsL_isMarketSo (wsV RL 82 RX0 yX0_nearest wsX0_nearest) := goodIn_app (goodIn_of _ (by decide +kernel)) ggL_isMarketSo_X0_nearest
set_option maxRecDepth 20000 in
theorem ggL_isMarketSo_X0_isHeld : GoodIn wsL_isMarketSo wsX0_isHeld := goodIn_ca (goodIn_ca (goodIn_r _ [54, 6, 7, 8, 4, 9, 10, 11, 12, 13, 14, 15, 16, 17, 18, 19, 20, 21, 22, 23, 24, 25, 55, 56, 57, 58, 36, 37, 38, 39, 35, 31, 32, 33, 34, 30, 40, 41, 42, 43, 44, 45, 46, 26, 27, 28, 29, 81, 82, 83, 84, 85, 86, 87, 88, 89, 90] (by decide +kernel) (by decide +kernel)) (goodIn_sub (fun _ h => List.mem_cons_of_mem _ (List.mem_append_left _ (List.mem_append_right _ h))) (by decide +kernel))) (goodIn_sub (fun _ h => List.mem_cons_of_mem _ (List.mem_append_right _ h)) (by decide +kernel))
set_option maxRecDepth 20000 in
theorem gL_isMarketSo_X0_isHeld : GoodIn wsL_isMarketSo (wsV RL 85 RX0 yX0_isHeld wsX0_isHeld) := goodIn_app (goodIn_of _ (by decide +kernel)) ggL_isMarketSo_X0_isHeld
set_option maxRecDepth 20000 in
theorem ggL_isMarketSo_X0_times : GoodIn wsL_isMarketSo wsX0_times := goodIn_ca (goodIn_ca (goodIn_r _ [62, 6, 7, 8, 4, 9, 10, 11, 12, 13, 14, 15, 16, 17, 18, 19, 20, 21, 22, 23, 24, 25, 63, 64, 65, 66, 36, 37, 38, 39, 35, 31, 32, 33, 34, 30, 26, 27, 28, 29, 67, 68, 69, 70, 71, 45, 72, 81, 82, 83, 84, 85, 86, 87, 88, 89, 90] (by decide +kernel) (by decide +kernel)) (goodIn_sub (fun _ h => List.mem_cons_of_mem _ (List.mem_append_left _ (List.mem_append_right _ h))) (by decide +kernel))) (goodIn_sub (fun _ h => List.mem_cons_of_mem _ (List.mem_append_right _ h)) (by decide +kernel))
set_option maxRecDepth 20000 in
theorem gL_isMarketSo_X0_times : GoodIn wsL_isMarketSo (wsV RL 89 RX0 yX0_times wsX0_times) := goodIn_app (goodIn_of _ (by decide +kernel)) ggL_isMarketSo_X0_times
set_option maxRecDepth 20000 in
theorem ggL_isMarketSo_X0_heldOn : GoodIn wsL_isMarketSo wsX0_heldOn := goodIn_ca (goodIn_r _ [76, 16, 17, 4, 18, 19, 20, 13, 14, 15, 21, 22, 23, 24, 25, 77, 78, 79, 80, 12, 55, 56, 57, 58, 36, 37, 38, 39, 35, 31, 32, 33, 34, 30, 40, 41, 42, 43, 44, 45, 46, 26, 27, 28, 29, 81, 82, 83, 84, 85, 86, 87, 88, 89, 90] (by decide +kernel) (by decide +kernel)) (goodIn_sub (fun _ h => List.mem_cons_of_mem _ (List.mem_append_right _ h)) (by decide +kernel))
set_option maxRecDepth 20000 in
theorem gL_isMarketSo_X0_heldOn : GoodIn wsL_isMarketSo (wsV RL 64 RX0 yX0_heldOn wsX0_heldOn) := goodIn_app (goodIn_of _ (by decide +kernel)) ggL_isMarketSo_X0_heldOn
theorem dL_isMarketSo_0 : decode cL_isMarketSo 0 = .ok (.aload_n 0, 1) := by decide +kernel
theorem dL_isMarketSo_1 : decode cL_isMarketSo 1 = .ok (.iload_n 1, 1) := by decide +kernel
theorem dL_isMarketSo_2 : decode cL_isMarketSo 2 = .ok (.iload_n 2, 1) := by decide +kernel
theorem dL_isMarketSo_3 : decode cL_isMarketSo 3 = .ok (.invokevirtual 79, 3) := by decide +kernel
theorem dL_isMarketSo_6 : decode cL_isMarketSo 6 = .ok (.istore_n 3, 1) := by decide +kernel
theorem dL_isMarketSo_7 : decode cL_isMarketSo 7 = .ok (.aload_n 0, 1) := by decide +kernel
theorem dL_isMarketSo_8 : decode cL_isMarketSo 8 = .ok (.iload_n 1, 1) := by decide +kernel
theorem dL_isMarketSo_9 : decode cL_isMarketSo 9 = .ok (.iload_n 2, 1) := by decide +kernel
theorem dL_isMarketSo_10 : decode cL_isMarketSo 10 = .ok (.invokevirtual 82, 3) := by decide +kernel
theorem dL_isMarketSo_13 : decode cL_isMarketSo 13 = .ok (.istore 4, 2) := by decide +kernel
theorem dL_isMarketSo_15 : decode cL_isMarketSo 15 = .ok (.iload 4, 2) := by decide +kernel
theorem dL_isMarketSo_17 : decode cL_isMarketSo 17 = .ok (.iload_n 2, 1) := by decide +kernel
theorem dL_isMarketSo_18 : decode cL_isMarketSo 18 = .ok (.if_icmp .le 10, 3) := by decide +kernel
theorem dL_isMarketSo_21 : decode cL_isMarketSo 21 = .ok (.iload 4, 2) := by decide +kernel
theorem dL_isMarketSo_23 : decode cL_isMarketSo 23 = .ok (.iload_n 2, 1) := by decide +kernel
theorem dL_isMarketSo_24 : decode cL_isMarketSo 24 = .ok (.isub, 1) := by decide +kernel
theorem dL_isMarketSo_25 : decode cL_isMarketSo 25 = .ok (.goto 7, 3) := by decide +kernel
theorem dL_isMarketSo_28 : decode cL_isMarketSo 28 = .ok (.iload_n 2, 1) := by decide +kernel
theorem dL_isMarketSo_29 : decode cL_isMarketSo 29 = .ok (.iload 4, 2) := by decide +kernel
theorem dL_isMarketSo_31 : decode cL_isMarketSo 31 = .ok (.isub, 1) := by decide +kernel
theorem dL_isMarketSo_32 : decode cL_isMarketSo 32 = .ok (.istore 5, 2) := by decide +kernel
theorem dL_isMarketSo_34 : decode cL_isMarketSo 34 = .ok (.iload_n 3, 1) := by decide +kernel
theorem dL_isMarketSo_35 : decode cL_isMarketSo 35 = .ok (.iload_n 2, 1) := by decide +kernel
theorem dL_isMarketSo_36 : decode cL_isMarketSo 36 = .ok (.if_icmp .lt 62, 3) := by decide +kernel
theorem dL_isMarketSo_39 : decode cL_isMarketSo 39 = .ok (.iload_n 3, 1) := by decide +kernel
theorem dL_isMarketSo_40 : decode cL_isMarketSo 40 = .ok (.iload_n 2, 1) := by decide +kernel
theorem dL_isMarketSo_41 : decode cL_isMarketSo 41 = .ok (.bipush 60, 2) := by decide +kernel
theorem dL_isMarketSo_43 : decode cL_isMarketSo 43 = .ok (.iadd, 1) := by decide +kernel
theorem dL_isMarketSo_44 : decode cL_isMarketSo 44 = .ok (.if_icmp .ge 54, 3) := by decide +kernel
theorem dL_isMarketSo_47 : decode cL_isMarketSo 47 = .ok (.aload_n 0, 1) := by decide +kernel
theorem dL_isMarketSo_48 : decode cL_isMarketSo 48 = .ok (.iload_n 1, 1) := by decide +kernel
theorem dL_isMarketSo_49 : decode cL_isMarketSo 49 = .ok (.iload_n 3, 1) := by decide +kernel
theorem dL_isMarketSo_50 : decode cL_isMarketSo 50 = .ok (.invokevirtual 85, 3) := by decide +kernel
theorem dL_isMarketSo_53 : decode cL_isMarketSo 53 = .ok (.ifCond .eq 45, 3) := by decide +kernel
theorem dL_isMarketSo_56 : decode cL_isMarketSo 56 = .ok (.aload_n 0, 1) := by decide +kernel
theorem dL_isMarketSo_57 : decode cL_isMarketSo 57 = .ok (.iload_n 1, 1) := by decide +kernel
theorem dL_isMarketSo_58 : decode cL_isMarketSo 58 = .ok (.iload 4, 2) := by decide +kernel
theorem dL_isMarketSo_60 : decode cL_isMarketSo 60 = .ok (.invokevirtual 85, 3) := by decide +kernel
theorem dL_isMarketSo_63 : decode cL_isMarketSo 63 = .ok (.ifCond .eq 35, 3) := by decide +kernel
theorem dL_isMarketSo_66 : decode cL_isMarketSo 66 = .ok (.aload_n 0, 1) := by decide +kernel
theorem dL_isMarketSo_67 : decode cL_isMarketSo 67 = .ok (.iload_n 1, 1) := by decide +kernel
theorem dL_isMarketSo_68 : decode cL_isMarketSo 68 = .ok (.iload_n 2, 1) := by decide +kernel
theorem dL_isMarketSo_69 : decode cL_isMarketSo 69 = .ok (.iload_n 3, 1) := by decide +kernel
theorem dL_isMarketSo_70 : decode cL_isMarketSo 70 = .ok (.invokevirtual 89, 3) := by decide +kernel
theorem dL_isMarketSo_73 : decode cL_isMarketSo 73 = .ok (.iconst 1, 1) := by decide +kernel
theorem dL_isMarketSo_74 : decode cL_isMarketSo 74 = .ok (.if_icmp .ne 24, 3) := by decide +kernel
theorem dL_isMarketSo_77 : decode cL_isMarketSo 77 = .ok (.iload_n 3, 1) := by decide +kernel
theorem dL_isMarketSo_78 : decode cL_isMarketSo 78 = .ok (.iload_n 2, 1) := by decide +kernel
theorem dL_isMarketSo_79 : decode cL_isMarketSo 79 = .ok (.if_icmp .eq 15, 3) := by decide +kernel
theorem dL_isMarketSo_82 : decode cL_isMarketSo 82 = .ok (.aload_n 0, 1) := by decide +kernel
theorem dL_isMarketSo_83 : decode cL_isMarketSo 83 = .ok (.iload_n 1, 1) := by decide +kernel
theorem dL_isMarketSo_84 : decode cL_isMarketSo 84 = .ok (.iload_n 2, 1) := by decide +kernel
theorem dL_isMarketSo_85 : decode cL_isMarketSo 85 = .ok (.iload_n 3, 1) := by decide +kernel
theorem dL_isMarketSo_86 : decode cL_isMarketSo 86 = .ok (.iconst 1, 1) := by decide +kernel
theorem dL_isMarketSo_87 : decode cL_isMarketSo 87 = .ok (.isub, 1) := by decide +kernel
theorem dL_isMarketSo_88 : decode cL_isMarketSo 88 = .ok (.invokevirtual 89, 3) := by decide +kernel
theorem dL_isMarketSo_91 : decode cL_isMarketSo 91 = .ok (.ifCond .ne 7, 3) := by decide +kernel
theorem dL_isMarketSo_94 : decode cL_isMarketSo 94 = .ok (.iconst 1, 1) := by decide +kernel
theorem dL_isMarketSo_95 : decode cL_isMarketSo 95 = .ok (.goto 4, 3) := by decide +kernel
theorem dL_isMarketSo_98 : decode cL_isMarketSo 98 = .ok (.iconst 0, 1) := by decide +kernel
theorem dL_isMarketSo_99 : decode cL_isMarketSo 99 = .ok (.istore 6, 2) := by decide +kernel
theorem dL_isMarketSo_101 : decode cL_isMarketSo 101 = .ok (.iload 6, 2) := by decide +kernel
theorem dL_isMarketSo_103 : decode cL_isMarketSo 103 = .ok (.ifCond .eq 50, 3) := by decide +kernel
theorem dL_isMarketSo_106 : decode cL_isMarketSo 106 = .ok (.iload 5, 2) := by decide +kernel
theorem dL_isMarketSo_108 : decode cL_isMarketSo 108 = .ok (.ifCond .eq 23, 3) := by decide +kernel
theorem dL_isMarketSo_111 : decode cL_isMarketSo 111 = .ok (.aload_n 0, 1) := by decide +kernel
theorem dL_isMarketSo_112 : decode cL_isMarketSo 112 = .ok (.iload_n 1, 1) := by decide +kernel
theorem dL_isMarketSo_113 : decode cL_isMarketSo 113 = .ok (.iload_n 2, 1) := by decide +kernel
theorem dL_isMarketSo_114 : decode cL_isMarketSo 114 = .ok (.iload 5, 2) := by decide +kernel
theorem dL_isMarketSo_116 : decode cL_isMarketSo 116 = .ok (.isub, 1) := by decide +kernel
theorem dL_isMarketSo_117 : decode cL_isMarketSo 117 = .ok (.iconst 1, 1) := by decide +kernel
theorem dL_isMarketSo_118 : decode cL_isMarketSo 118 = .ok (.iadd, 1) := by decide +kernel
theorem dL_isMarketSo_119 : decode cL_isMarketSo 119 = .ok (.iload_n 2, 1) := by decide +kernel
theorem dL_isMarketSo_120 : decode cL_isMarketSo 120 = .ok (.iload 5, 2) := by decide +kernel
theorem dL_isMarketSo_122 : decode cL_isMarketSo 122 = .ok (.iadd, 1) := by decide +kernel
theorem dL_isMarketSo_123 : decode cL_isMarketSo 123 = .ok (.iconst 1, 1) := by decide +kernel
theorem dL_isMarketSo_124 : decode cL_isMarketSo 124 = .ok (.isub, 1) := by decide +kernel
theorem dL_isMarketSo_125 : decode cL_isMarketSo 125 = .ok (.invokevirtual 89, 3) := by decide +kernel
theorem dL_isMarketSo_128 : decode cL_isMarketSo 128 = .ok (.ifCond .ne 25, 3) := by decide +kernel
theorem dL_isMarketSo_131 : decode cL_isMarketSo 131 = .ok (.iload 4, 2) := by decide +kernel
theorem dL_isMarketSo_133 : decode cL_isMarketSo 133 = .ok (.iload_n 2, 1) := by decide +kernel
theorem dL_isMarketSo_134 : decode cL_isMarketSo 134 = .ok (.if_icmp .le 15, 3) := by decide +kernel
theorem dL_isMarketSo_137 : decode cL_isMarketSo 137 = .ok (.aload_n 0, 1) := by decide +kernel
theorem dL_isMarketSo_138 : decode cL_isMarketSo 138 = .ok (.iload_n 1, 1) := by decide +kernel
theorem dL_isMarketSo_139 : decode cL_isMarketSo 139 = .ok (.iload_n 2, 1) := by decide +kernel
theorem dL_isMarketSo_140 : decode cL_isMarketSo 140 = .ok (.iload 5, 2) := by decide +kernel
theorem dL_isMarketSo_142 : decode cL_isMarketSo 142 = .ok (.isub, 1) := by decide +kernel
theorem dL_isMarketSo_143 : decode cL_isMarketSo 143 = .ok (.invokevirtual 85, 3) := by decide +kernel
theorem dL_isMarketSo_146 : decode cL_isMarketSo 146 = .ok (.ifCond .ne 7, 3) := by decide +kernel
theorem dL_isMarketSo_149 : decode cL_isMarketSo 149 = .ok (.iconst 1, 1) := by decide +kernel
theorem dL_isMarketSo_150 : decode cL_isMarketSo 150 = .ok (.goto 4, 3) := by decide +kernel
theorem dL_isMarketSo_153 : decode cL_isMarketSo 153 = .ok (.iconst 0, 1) := by decide +kernel
theorem dL_isMarketSo_154 : decode cL_isMarketSo 154 = .ok (.istore 6, 2) := by decide +kernel
theorem dL_isMarketSo_156 : decode cL_isMarketSo 156 = .ok (.iload 6, 2) := by decide +kernel
theorem dL_isMarketSo_158 : decode cL_isMarketSo 158 = .ok (.ifCond .eq 72, 3) := by decide +kernel
theorem dL_isMarketSo_161 : decode cL_isMarketSo 161 = .ok (.aload_n 0, 1) := by decide +kernel
theorem dL_isMarketSo_162 : decode cL_isMarketSo 162 = .ok (.iload_n 2, 1) := by decide +kernel
theorem dL_isMarketSo_163 : decode cL_isMarketSo 163 = .ok (.invokevirtual 64, 3) := by decide +kernel
theorem dL_isMarketSo_166 : decode cL_isMarketSo 166 = .ok (.iload_n 1, 1) := by decide +kernel
theorem dL_isMarketSo_167 : decode cL_isMarketSo 167 = .ok (.ishr, 1) := by decide +kernel
theorem dL_isMarketSo_168 : decode cL_isMarketSo 168 = .ok (.iconst 1, 1) := by decide +kernel
theorem dL_isMarketSo_169 : decode cL_isMarketSo 169 = .ok (.iand, 1) := by decide +kernel
theorem dL_isMarketSo_170 : decode cL_isMarketSo 170 = .ok (.aload_n 0, 1) := by decide +kernel
theorem dL_isMarketSo_171 : decode cL_isMarketSo 171 = .ok (.iload_n 1, 1) := by decide +kernel
theorem dL_isMarketSo_172 : decode cL_isMarketSo 172 = .ok (.iload_n 2, 1) := by decide +kernel
theorem dL_isMarketSo_173 : decode cL_isMarketSo 173 = .ok (.invokevirtual 85, 3) := by decide +kernel
theorem dL_isMarketSo_176 : decode cL_isMarketSo 176 = .ok (.ifCond .eq 7, 3) := by decide +kernel
theorem dL_isMarketSo_179 : decode cL_isMarketSo 179 = .ok (.iconst 1, 1) := by decide +kernel
theorem dL_isMarketSo_180 : decode cL_isMarketSo 180 = .ok (.goto 4, 3) := by decide +kernel
theorem dL_isMarketSo_183 : decode cL_isMarketSo 183 = .ok (.iconst 0, 1) := by decide +kernel
theorem dL_isMarketSo_184 : decode cL_isMarketSo 184 = .ok (.if_icmp .ne 46, 3) := by decide +kernel
theorem dL_isMarketSo_187 : decode cL_isMarketSo 187 = .ok (.aload_n 0, 1) := by decide +kernel
theorem dL_isMarketSo_188 : decode cL_isMarketSo 188 = .ok (.iload_n 1, 1) := by decide +kernel
theorem dL_isMarketSo_189 : decode cL_isMarketSo 189 = .ok (.iload_n 2, 1) := by decide +kernel
theorem dL_isMarketSo_190 : decode cL_isMarketSo 190 = .ok (.iload_n 2, 1) := by decide +kernel
theorem dL_isMarketSo_191 : decode cL_isMarketSo 191 = .ok (.sipush 500, 3) := by decide +kernel
theorem dL_isMarketSo_194 : decode cL_isMarketSo 194 = .ok (.iadd, 1) := by decide +kernel
theorem dL_isMarketSo_195 : decode cL_isMarketSo 195 = .ok (.invokevirtual 89, 3) := by decide +kernel
theorem dL_isMarketSo_198 : decode cL_isMarketSo 198 = .ok (.aload_n 0, 1) := by decide +kernel
theorem dL_isMarketSo_199 : decode cL_isMarketSo 199 = .ok (.iload_n 1, 1) := by decide +kernel
theorem dL_isMarketSo_200 : decode cL_isMarketSo 200 = .ok (.iload_n 2, 1) := by decide +kernel
theorem dL_isMarketSo_201 : decode cL_isMarketSo 201 = .ok (.iload_n 2, 1) := by decide +kernel
theorem dL_isMarketSo_202 : decode cL_isMarketSo 202 = .ok (.bipush 77, 2) := by decide +kernel
theorem dL_isMarketSo_204 : decode cL_isMarketSo 204 = .ok (.iadd, 1) := by decide +kernel
theorem dL_isMarketSo_205 : decode cL_isMarketSo 205 = .ok (.invokevirtual 89, 3) := by decide +kernel
theorem dL_isMarketSo_208 : decode cL_isMarketSo 208 = .ok (.aload_n 0, 1) := by decide +kernel
theorem dL_isMarketSo_209 : decode cL_isMarketSo 209 = .ok (.iload_n 1, 1) := by decide +kernel
theorem dL_isMarketSo_210 : decode cL_isMarketSo 210 = .ok (.iload_n 2, 1) := by decide +kernel
theorem dL_isMarketSo_211 : decode cL_isMarketSo 211 = .ok (.bipush 78, 2) := by decide +kernel
theorem dL_isMarketSo_213 : decode cL_isMarketSo 213 = .ok (.iadd, 1) := by decide +kernel
theorem dL_isMarketSo_214 : decode cL_isMarketSo 214 = .ok (.iload_n 2, 1) := by decide +kernel
theorem dL_isMarketSo_215 : decode cL_isMarketSo 215 = .ok (.sipush 500, 3) := by decide +kernel
theorem dL_isMarketSo_218 : decode cL_isMarketSo 218 = .ok (.iadd, 1) := by decide +kernel
theorem dL_isMarketSo_219 : decode cL_isMarketSo 219 = .ok (.invokevirtual 89, 3) := by decide +kernel
theorem dL_isMarketSo_222 : decode cL_isMarketSo 222 = .ok (.iadd, 1) := by decide +kernel
theorem dL_isMarketSo_223 : decode cL_isMarketSo 223 = .ok (.if_icmp .ne 7, 3) := by decide +kernel
theorem dL_isMarketSo_226 : decode cL_isMarketSo 226 = .ok (.iconst 1, 1) := by decide +kernel
theorem dL_isMarketSo_227 : decode cL_isMarketSo 227 = .ok (.goto 4, 3) := by decide +kernel
theorem dL_isMarketSo_230 : decode cL_isMarketSo 230 = .ok (.iconst 0, 1) := by decide +kernel
theorem dL_isMarketSo_231 : decode cL_isMarketSo 231 = .ok (.ireturn, 1) := by decide +kernel
set_option maxRecDepth 20000 in
theorem ggL_isMeetingSo_L_period : GoodIn wsL_isMeetingSo wsL_period := goodIn_ca (goodIn_ca (goodIn_ca (goodIn_r _ [8, 9, 10, 11, 12, 13, 14, 15, 16, 17, 18, 19, 20, 21, 22, 23, 24, 25, 26, 27, 28, 29, 30, 31, 32, 33, 34, 35, 36, 37, 38, 39, 40, 41, 42, 43, 44, 45, 46, 47, 48, 49, 50, 51, 52, 53, 54, 55, 56, 57, 58, 59, 60, 61, 62, 63, 64, 65, 66, 67, 68, 69, 70, 71, 72, 73, 74, 75, 76, 77, 78, 79, 80, 81, 82, 83, 84, 85, 86, 87, 88, 89, 135, 136, 137, 138, 139, 140, 141, 142, 143, 144] (by decide +kernel) (by decide +kernel)) (goodIn_sub (fun _ h => List.mem_cons_of_mem _ (List.mem_append_left _ (List.mem_append_left _ (List.mem_append_right _ h)))) (by decide +kernel))) (goodIn_sub (fun _ h => List.mem_cons_of_mem _ (List.mem_append_left _ (List.mem_append_right _ h))) (by decide +kernel))) (goodIn_sub (fun _ h => List.mem_cons_of_mem _ (List.mem_append_right _ h)) (by decide +kernel))
set_option maxRecDepth 20000 in
theorem gL_isMeetingSo_L_period : GoodIn wsL_isMeetingSo (va_wsS RL 93 yL_period wsL_period) := goodIn_app (goodIn_of _ (by decide +kernel)) ggL_isMeetingSo_L_period
set_option maxRecDepth 20000 in
theorem ggL_isMeetingSo_L_meeting : GoodIn wsL_isMeetingSo wsL_meeting := goodIn_ca (goodIn_ca (goodIn_ca (goodIn_r _ [92, 9, 10, 11, 2, 1, 93, 94, 95, 16, 96, 97, 98, 99, 100, 101, 29, 30, 31, 32, 33, 34, 35, 36, 18, 19, 20, 21, 22, 23, 24, 25, 26, 27, 28, 37, 38, 39, 40, 41, 42, 43, 44, 45, 46, 47, 48, 49, 50, 51, 52, 53, 54, 55, 56, 57, 58, 59, 60, 61, 62, 63, 64, 65, 66, 67, 68, 69, 70, 71, 72, 73, 74, 75, 76, 77, 78, 79, 80, 81, 82, 83, 84, 85, 86, 87, 88, 89, 135, 136, 137, 138, 139, 140, 141, 142, 143, 144] (by decide +kernel) (by decide +kernel)) (goodIn_sub (fun _ h => List.mem_cons_of_mem _ (List.mem_append_left _ (List.mem_append_left _ (List.mem_append_right _ h)))) (by decide +kernel))) (goodIn_sub (fun _ h => List.mem_cons_of_mem _ (List.mem_append_left _ (List.mem_append_right _ h))) (by decide +kernel))) (goodIn_sub (fun _ h => List.mem_cons_of_mem _ (List.mem_append_right _ h)) (by decide +kernel))
set_option maxRecDepth 20000 in
theorem gL_isMeetingSo_L_meeting : GoodIn wsL_isMeetingSo (va_wsS RL 96 yL_meeting wsL_meeting) := goodIn_app (goodIn_of _ (by decide +kernel)) ggL_isMeetingSo_L_meeting
set_option maxRecDepth 20000 in
theorem ggL_isMeetingSo_X0_doMeet : GoodIn wsL_isMeetingSo wsX0_doMeet := goodIn_ca (goodIn_ca (goodIn_r _ [105, 48, 18, 19, 20, 16, 21, 22, 23, 24, 25, 26, 27, 28, 29, 30, 31, 32, 33, 34, 35, 36, 37, 38, 39, 40, 41, 42, 43, 44, 45, 46, 47, 49, 50, 51, 52, 53, 54, 55, 56, 57, 58, 59, 60, 61, 62, 63, 64, 65, 66, 67, 68, 69, 70, 71, 72, 73, 74, 75, 76, 77, 78, 79, 80, 135, 136, 137, 138, 139, 140, 141, 142, 143, 144] (by decide +kernel) (by decide +kernel)) (goodIn_sub (fun _ h => List.mem_cons_of_mem _ (List.mem_append_left _ (List.mem_append_left _ (List.mem_append_right _ h)))) (by decide +kernel))) (goodIn_sub (fun _ h => List.mem_cons_of_mem _ (List.mem_append_left _ (List.mem_append_right _ h))) (by decide +kernel))
set_option maxRecDepth 20000 in
theorem gL_isMeetingSo_X0_doMeet : GoodIn wsL_isMeetingSo (wsV RL 98 RX0 yX0_doMeet wsX0_doMeet) := goodIn_app (goodIn_of _ (by decide +kernel)) ggL_isMeetingSo_X0_doMeet
set_option maxRecDepth 20000 in
theorem ggL_isMeetingSo_X0_heldOn : GoodIn wsL_isMeetingSo wsX0_heldOn := goodIn_ca (goodIn_r _ [109, 97, 98, 16, 99, 100, 101, 29, 30, 31, 32, 33, 34, 35, 36, 110, 111, 112, 113, 43, 63, 64, 65, 66, 53, 54, 55, 56, 57, 58, 59, 60, 61, 62, 67, 68, 69, 70, 71, 72, 73, 74, 75, 76, 77, 135, 136, 137, 138, 139, 140, 141, 142, 143, 144] (by decide +kernel) (by decide +kernel)) (goodIn_sub (fun _ h => List.mem_cons_of_mem _ (List.mem_append_left _ (List.mem_append_left _ (List.mem_append_right _ h)))) (by decide +kernel))
set_option maxRecDepth 20000 in
theorem gL_isMeetingSo_X0_heldOn : GoodIn wsL_isMeetingSo (wsV RL 64 RX0 yX0_heldOn wsX0_heldOn) := goodIn_app (goodIn_of _ (by decide +kernel)) ggL_isMeetingSo_X0_heldOn
set_option maxRecDepth 20000 in
theorem ggL_isMeetingSo_X0_lunarMeeting : GoodIn wsL_isMeetingSo wsX0_lunarMeeting := goodIn_ca (goodIn_ca (goodIn_ca (goodIn_r _ [117, 48, 97, 98, 16, 99, 100, 101, 29, 30, 31, 32, 33, 34, 35, 36, 18, 19, 20, 21, 22, 23, 24, 25, 26, 27, 28, 37, 38, 39, 40, 41, 42, 43, 44, 45, 46, 47, 49, 50, 51, 52, 53, 54, 55, 56, 57, 58, 59, 60, 61, 62, 63, 64, 65, 66, 67, 68, 69, 70, 71, 72, 73, 74, 75, 76, 77, 78, 79, 80, 81, 82, 83, 84, 85, 86, 87, 88, 89, 118, 119, 120, 121, 122, 123, 124, 125, 126, 127, 128, 129, 130, 131, 132, 133, 134, 135, 136, 137, 138, 139, 140, 141, 142, 143, 144] (by decide +kernel) (by decide +kernel)) (goodIn_sub (fun _ h => List.mem_cons_of_mem _ (List.mem_append_left _ (List.mem_append_left _ (List.mem_append_right _ h)))) (by decide +kernel))) (goodIn_sub (fun _ h => List.mem_cons_of_mem _ (List.mem_append_left _ (List.mem_append_right _ h))) (by decide +kernel))) (goodIn_sub (fun _ h => List.mem_cons_of_mem _ (List.mem_append_right _ h)) (by decide +kernel))
set_option maxRecDepth 20000 in
theorem gL_isMeetingSo_X0_lunarMeeting : GoodIn wsL_isMeetingSo (wsV RL 103 RX0 yX0_lunarMeeting wsX0_lunarMeeting) := goodIn_app (goodIn_of _ (by decide +kernel)) ggL_isMeetingSo_X0_lunarMeeting
theorem dL_isMeetingSo_0 : decode cL_isMeetingSo 0 = .ok (.aload_n 0, 1) := by decide +kernel
theorem dL_isMeetingSo_1 : decode cL_isMeetingSo 1 = .ok (.iload_n 1, 1) := by decide +kernel
theorem dL_isMeetingSo_2 : decode cL_isMeetingSo 2 = .ok (.invokestatic 93, 3) := by decide +kernel
theorem dL_isMeetingSo_5 : decode cL_isMeetingSo 5 = .ok (.istore_n 3, 1) := by decide +kernel
theorem dL_isMeetingSo_6 : decode cL_isMeetingSo 6 = .ok (.aload_n 0, 1) := by decide +kernel
theorem dL_isMeetingSo_7 : decode cL_isMeetingSo 7 = .ok (.iload_n 1, 1) := by decide +kernel
theorem dL_isMeetingSo_8 : decode cL_isMeetingSo 8 = .ok (.iload_n 2, 1) := by decide +kernel
theorem dL_isMeetingSo_9 : decode cL_isMeetingSo 9 = .ok (.invokestatic 96, 3) := by decide +kernel
theorem dL_isMeetingSo_12 : decode cL_isMeetingSo 12 = .ok (.istore 4, 2) := by decide +kernel
theorem dL_isMeetingSo_14 : decode cL_isMeetingSo 14 = .ok (.iload_n 3, 1) := by decide +kernel
theorem dL_isMeetingSo_15 : decode cL_isMeetingSo 15 = .ok (.ifCond .ge 44, 3) := by decide +kernel
theorem dL_isMeetingSo_18 : decode cL_isMeetingSo 18 = .ok (.iload_n 3, 1) := by decide +kernel
theorem dL_isMeetingSo_19 : decode cL_isMeetingSo 19 = .ok (.iconst (-1), 1) := by decide +kernel
theorem dL_isMeetingSo_20 : decode cL_isMeetingSo 20 = .ok (.if_icmp .ne 26, 3) := by decide +kernel
theorem dL_isMeetingSo_23 : decode cL_isMeetingSo 23 = .ok (.iload 4, 2) := by decide +kernel
theorem dL_isMeetingSo_25 : decode cL_isMeetingSo 25 = .ok (.ldc 43, 2) := by decide +kernel
theorem dL_isMeetingSo_27 : decode cL_isMeetingSo 27 = .ok (.if_icmp .ne 15, 3) := by decide +kernel
theorem dL_isMeetingSo_30 : decode cL_isMeetingSo 30 = .ok (.aload_n 0, 1) := by decide +kernel
theorem dL_isMeetingSo_31 : decode cL_isMeetingSo 31 = .ok (.iload_n 1, 1) := by decide +kernel
theorem dL_isMeetingSo_32 : decode cL_isMeetingSo 32 = .ok (.invokevirtual 98, 3) := by decide +kernel
theorem dL_isMeetingSo_35 : decode cL_isMeetingSo 35 = .ok (.ifCond .ne 7, 3) := by decide +kernel
theorem dL_isMeetingSo_38 : decode cL_isMeetingSo 38 = .ok (.iconst 1, 1) := by decide +kernel
theorem dL_isMeetingSo_39 : decode cL_isMeetingSo 39 = .ok (.goto 19, 3) := by decide +kernel
theorem dL_isMeetingSo_42 : decode cL_isMeetingSo 42 = .ok (.iconst 0, 1) := by decide +kernel
theorem dL_isMeetingSo_43 : decode cL_isMeetingSo 43 = .ok (.goto 15, 3) := by decide +kernel
theorem dL_isMeetingSo_46 : decode cL_isMeetingSo 46 = .ok (.iload 4, 2) := by decide +kernel
theorem dL_isMeetingSo_48 : decode cL_isMeetingSo 48 = .ok (.ldc 35, 2) := by decide +kernel
theorem dL_isMeetingSo_50 : decode cL_isMeetingSo 50 = .ok (.if_icmp .ne 7, 3) := by decide +kernel
theorem dL_isMeetingSo_53 : decode cL_isMeetingSo 53 = .ok (.iconst 1, 1) := by decide +kernel
theorem dL_isMeetingSo_54 : decode cL_isMeetingSo 54 = .ok (.goto 4, 3) := by decide +kernel
theorem dL_isMeetingSo_57 : decode cL_isMeetingSo 57 = .ok (.iconst 0, 1) := by decide +kernel
theorem dL_isMeetingSo_58 : decode cL_isMeetingSo 58 = .ok (.ireturn, 1) := by decide +kernel
theorem dL_isMeetingSo_59 : decode cL_isMeetingSo 59 = .ok (.iload 4, 2) := by decide +kernel
theorem dL_isMeetingSo_61 : decode cL_isMeetingSo 61 = .ok (.iload_n 2, 1) := by decide +kernel
theorem dL_isMeetingSo_62 : decode cL_isMeetingSo 62 = .ok (.if_icmp .lt 58, 3) := by decide +kernel
theorem dL_isMeetingSo_65 : decode cL_isMeetingSo 65 = .ok (.iload 4, 2) := by decide +kernel
theorem dL_isMeetingSo_67 : decode cL_isMeetingSo 67 = .ok (.iload_n 2, 1) := by decide +kernel
theorem dL_isMeetingSo_68 : decode cL_isMeetingSo 68 = .ok (.isub, 1) := by decide +kernel
theorem dL_isMeetingSo_69 : decode cL_isMeetingSo 69 = .ok (.iload_n 3, 1) := by decide +kernel
theorem dL_isMeetingSo_70 : decode cL_isMeetingSo 70 = .ok (.if_icmp .ge 50, 3) := by decide +kernel
theorem dL_isMeetingSo_73 : decode cL_isMeetingSo 73 = .ok (.aload_n 0, 1) := by decide +kernel
theorem dL_isMeetingSo_74 : decode cL_isMeetingSo 74 = .ok (.iload_n 1, 1) := by decide +kernel
theorem dL_isMeetingSo_75 : decode cL_isMeetingSo 75 = .ok (.invokevirtual 98, 3) := by decide +kernel
theorem dL_isMeetingSo_78 : decode cL_isMeetingSo 78 = .ok (.ifCond .eq 42, 3) := by decide +kernel
theorem dL_isMeetingSo_81 : decode cL_isMeetingSo 81 = .ok (.iload 4, 2) := by decide +kernel
theorem dL_isMeetingSo_83 : decode cL_isMeetingSo 83 = .ok (.ldc 102, 2) := by decide +kernel
theorem dL_isMeetingSo_85 : decode cL_isMeetingSo 85 = .ok (.if_icmp .gt 15, 3) := by decide +kernel
theorem dL_isMeetingSo_88 : decode cL_isMeetingSo 88 = .ok (.aload_n 0, 1) := by decide +kernel
theorem dL_isMeetingSo_89 : decode cL_isMeetingSo 89 = .ok (.iload 4, 2) := by decide +kernel
theorem dL_isMeetingSo_91 : decode cL_isMeetingSo 91 = .ok (.invokevirtual 64, 3) := by decide +kernel
theorem dL_isMeetingSo_94 : decode cL_isMeetingSo 94 = .ok (.iload_n 1, 1) := by decide +kernel
theorem dL_isMeetingSo_95 : decode cL_isMeetingSo 95 = .ok (.iand, 1) := by decide +kernel
theorem dL_isMeetingSo_96 : decode cL_isMeetingSo 96 = .ok (.iload_n 1, 1) := by decide +kernel
theorem dL_isMeetingSo_97 : decode cL_isMeetingSo 97 = .ok (.if_icmp .ne 23, 3) := by decide +kernel
theorem dL_isMeetingSo_100 : decode cL_isMeetingSo 100 = .ok (.aload_n 0, 1) := by decide +kernel
theorem dL_isMeetingSo_101 : decode cL_isMeetingSo 101 = .ok (.iload_n 1, 1) := by decide +kernel
theorem dL_isMeetingSo_102 : decode cL_isMeetingSo 102 = .ok (.iload_n 2, 1) := by decide +kernel
theorem dL_isMeetingSo_103 : decode cL_isMeetingSo 103 = .ok (.bipush 99, 2) := by decide +kernel
theorem dL_isMeetingSo_105 : decode cL_isMeetingSo 105 = .ok (.iconst 3, 1) := by decide +kernel
theorem dL_isMeetingSo_106 : decode cL_isMeetingSo 106 = .ok (.invokevirtual 103, 3) := by decide +kernel
theorem dL_isMeetingSo_109 : decode cL_isMeetingSo 109 = .ok (.ldc2_w 107, 3) := by decide +kernel
theorem dL_isMeetingSo_112 : decode cL_isMeetingSo 112 = .ok (.lcmp, 1) := by decide +kernel
theorem dL_isMeetingSo_113 : decode cL_isMeetingSo 113 = .ok (.ifCond .lt 7, 3) := by decide +kernel
theorem dL_isMeetingSo_116 : decode cL_isMeetingSo 116 = .ok (.iconst 1, 1) := by decide +kernel
theorem dL_isMeetingSo_117 : decode cL_isMeetingSo 117 = .ok (.goto 4, 3) := by decide +kernel
theorem dL_isMeetingSo_120 : decode cL_isMeetingSo 120 = .ok (.iconst 0, 1) := by decide +kernel
theorem dL_isMeetingSo_121 : decode cL_isMeetingSo 121 = .ok (.istore 5, 2) := by decide +kernel
theorem dL_isMeetingSo_123 : decode cL_isMeetingSo 123 = .ok (.iload 5, 2) := by decide +kernel
theorem dL_isMeetingSo_125 : decode cL_isMeetingSo 125 = .ok (.ifCond .eq 42, 3) := by decide +kernel
theorem dL_isMeetingSo_128 : decode cL_isMeetingSo 128 = .ok (.iload 4, 2) := by decide +kernel
theorem dL_isMeetingSo_130 : decode cL_isMeetingSo 130 = .ok (.ldc 102, 2) := by decide +kernel
theorem dL_isMeetingSo_132 : decode cL_isMeetingSo 132 = .ok (.if_icmp .ge 31, 3) := by decide +kernel
theorem dL_isMeetingSo_135 : decode cL_isMeetingSo 135 = .ok (.aload_n 0, 1) := by decide +kernel
theorem dL_isMeetingSo_136 : decode cL_isMeetingSo 136 = .ok (.iload_n 1, 1) := by decide +kernel
theorem dL_isMeetingSo_137 : decode cL_isMeetingSo 137 = .ok (.iload 4, 2) := by decide +kernel
theorem dL_isMeetingSo_139 : decode cL_isMeetingSo 139 = .ok (.invokestatic 96, 3) := by decide +kernel
theorem dL_isMeetingSo_142 : decode cL_isMeetingSo 142 = .ok (.iload 4, 2) := by decide +kernel
theorem dL_isMeetingSo_144 : decode cL_isMeetingSo 144 = .ok (.if_icmp .ne 23, 3) := by decide +kernel
theorem dL_isMeetingSo_147 : decode cL_isMeetingSo 147 = .ok (.aload_n 0, 1) := by decide +kernel
theorem dL_isMeetingSo_148 : decode cL_isMeetingSo 148 = .ok (.iload_n 1, 1) := by decide +kernel
theorem dL_isMeetingSo_149 : decode cL_isMeetingSo 149 = .ok (.iload 4, 2) := by decide +kernel
theorem dL_isMeetingSo_151 : decode cL_isMeetingSo 151 = .ok (.iconst 1, 1) := by decide +kernel
theorem dL_isMeetingSo_152 : decode cL_isMeetingSo 152 = .ok (.iadd, 1) := by decide +kernel
theorem dL_isMeetingSo_153 : decode cL_isMeetingSo 153 = .ok (.invokestatic 96, 3) := by decide +kernel
theorem dL_isMeetingSo_156 : decode cL_isMeetingSo 156 = .ok (.iload 4, 2) := by decide +kernel
theorem dL_isMeetingSo_158 : decode cL_isMeetingSo 158 = .ok (.iload_n 3, 1) := by decide +kernel
theorem dL_isMeetingSo_159 : decode cL_isMeetingSo 159 = .ok (.iadd, 1) := by decide +kernel
theorem dL_isMeetingSo_160 : decode cL_isMeetingSo 160 = .ok (.if_icmp .ne 7, 3) := by decide +kernel
theorem dL_isMeetingSo_163 : decode cL_isMeetingSo 163 = .ok (.iconst 1, 1) := by decide +kernel
theorem dL_isMeetingSo_164 : decode cL_isMeetingSo 164 = .ok (.goto 4, 3) := by decide +kernel
theorem dL_isMeetingSo_167 : decode cL_isMeetingSo 167 = .ok (.iconst 0, 1) := by decide +kernel
theorem dL_isMeetingSo_168 : decode cL_isMeetingSo 168 = .ok (.ireturn, 1) := by decide +kernel
set_option maxRecDepth 20000 in
theorem ggL_isMonthSo_X0_month : GoodIn wsL_isMonthSo wsX0_month := goodIn_ca (goodIn_r _ [7, 8, 9, 10, 6, 11, 12, 13, 14, 15, 16, 17, 18, 19, 20, 21, 22, 23, 24, 25, 26, 27, 28, 29, 30, 31, 32, 33, 34, 55, 56, 57, 58, 59, 60, 61, 62, 63, 64] (by decide +kernel) (by decide +kernel)) (goodIn_sub (fun _ h => List.mem_cons_of_mem _ (List.mem_append_right _ h)) (by decide +kernel))
set_option maxRecDepth 20000 in
theorem gL_isMonthSo_X0_month : GoodIn wsL_isMonthSo (wsV RL 67 RX0 yX0_month wsX0_month) := goodIn_app (goodIn_of _ (by decide +kernel)) ggL_isMonthSo_X0_month
set_option maxRecDepth 20000 in
theorem ggL_isMonthSo_X0_monthBegin : GoodIn wsL_isMonthSo wsX0_monthBegin := goodIn_ca (goodIn_r _ [38, 39, 40, 8, 27, 26, 14, 15, 6, 16, 17, 18, 19, 20, 21, 28, 29, 30, 31, 32, 33, 34, 55, 56, 57, 58, 59, 60, 61, 62, 63, 64] (by decide +kernel) (by decide +kernel)) (goodIn_sub (fun _ h => List.mem_cons_of_mem _ (List.mem_append_right _ h)) (by decide +kernel))
set_option maxRecDepth 20000 in
theorem gL_isMonthSo_X0_monthBegin : GoodIn wsL_isMonthSo (wsV RL 110 RX0 yX0_monthBegin wsX0_monthBegin) := goodIn_app (goodIn_of _ (by decide +kernel)) ggL_isMonthSo_X0_monthBegin
set_option maxRecDepth 20000 in
theorem ggL_isMonthSo_X0_lunarDay : GoodIn wsL_isMonthSo wsX0_lunarDay := goodIn_ca (goodIn_r _ [44, 9, 10, 6, 11, 12, 13, 14, 15, 16, 17, 18, 19, 20, 21, 45, 46, 47, 48, 8, 27, 22, 23, 24, 25, 26, 49, 50, 51, 52, 53, 33, 54, 28, 29, 30, 31, 32, 34, 55, 56, 57, 58, 59, 60, 61, 62, 63, 64] (by decide +kernel) (by decide +kernel)) (goodIn_sub (fun _ h => List.mem_cons_of_mem _ (List.mem_append_right _ h)) (by decide +kernel))
set_option maxRecDepth 20000 in
theorem gL_isMonthSo_X0_lunarDay : GoodIn wsL_isMonthSo (wsV RL 70 RX0 yX0_lunarDay wsX0_lunarDay) := goodIn_app (goodIn_of _ (by decide +kernel)) ggL_isMonthSo_X0_lunarDay
theorem dL_isMonthSo_0 : decode cL_isMonthSo 0 = .ok (.aload_n 0, 1) := by decide +kernel
theorem dL_isMonthSo_1 : decode cL_isMonthSo 1 = .ok (.iload_n 1, 1) := by decide +kernel
theorem dL_isMonthSo_2 : decode cL_isMonthSo 2 = .ok (.invokevirtual 67, 3) := by decide +kernel
theorem dL_isMonthSo_5 : decode cL_isMonthSo 5 = .ok (.istore_n 2, 1) := by decide +kernel
theorem dL_isMonthSo_6 : decode cL_isMonthSo 6 = .ok (.iload_n 2, 1) := by decide +kernel
theorem dL_isMonthSo_7 : decode cL_isMonthSo 7 = .ok (.ldc 16, 2) := by decide +kernel
theorem dL_isMonthSo_9 : decode cL_isMonthSo 9 = .ok (.if_icmp .lt 9, 3) := by decide +kernel
theorem dL_isMonthSo_12 : decode cL_isMonthSo 12 = .ok (.iload_n 2, 1) := by decide +kernel
theorem dL_isMonthSo_13 : decode cL_isMonthSo 13 = .ok (.ldc 109, 2) := by decide +kernel
theorem dL_isMonthSo_15 : decode cL_isMonthSo 15 = .ok (.if_icmp .le 5, 3) := by decide +kernel
theorem dL_isMonthSo_18 : decode cL_isMonthSo 18 = .ok (.iconst 1, 1) := by decide +kernel
theorem dL_isMonthSo_19 : decode cL_isMonthSo 19 = .ok (.ireturn, 1) := by decide +kernel
theorem dL_isMonthSo_20 : decode cL_isMonthSo 20 = .ok (.aload_n 0, 1) := by decide +kernel
theorem dL_isMonthSo_21 : decode cL_isMonthSo 21 = .ok (.iload_n 2, 1) := by decide +kernel
theorem dL_isMonthSo_22 : decode cL_isMonthSo 22 = .ok (.invokevirtual 110, 3) := by decide +kernel
theorem dL_isMonthSo_25 : decode cL_isMonthSo 25 = .ok (.istore_n 3, 1) := by decide +kernel
theorem dL_isMonthSo_26 : decode cL_isMonthSo 26 = .ok (.iload_n 3, 1) := by decide +kernel
theorem dL_isMonthSo_27 : decode cL_isMonthSo 27 = .ok (.iload_n 1, 1) := by decide +kernel
theorem dL_isMonthSo_28 : decode cL_isMonthSo 28 = .ok (.if_icmp .gt 70, 3) := by decide +kernel
theorem dL_isMonthSo_31 : decode cL_isMonthSo 31 = .ok (.aload_n 0, 1) := by decide +kernel
theorem dL_isMonthSo_32 : decode cL_isMonthSo 32 = .ok (.iload_n 1, 1) := by decide +kernel
theorem dL_isMonthSo_33 : decode cL_isMonthSo 33 = .ok (.invokevirtual 70, 3) := by decide +kernel
theorem dL_isMonthSo_36 : decode cL_isMonthSo 36 = .ok (.iload_n 1, 1) := by decide +kernel
theorem dL_isMonthSo_37 : decode cL_isMonthSo 37 = .ok (.iload_n 3, 1) := by decide +kernel
theorem dL_isMonthSo_38 : decode cL_isMonthSo 38 = .ok (.isub, 1) := by decide +kernel
theorem dL_isMonthSo_39 : decode cL_isMonthSo 39 = .ok (.if_icmp .ne 59, 3) := by decide +kernel
theorem dL_isMonthSo_42 : decode cL_isMonthSo 42 = .ok (.aload_n 0, 1) := by decide +kernel
theorem dL_isMonthSo_43 : decode cL_isMonthSo 43 = .ok (.iload_n 3, 1) := by decide +kernel
theorem dL_isMonthSo_44 : decode cL_isMonthSo 44 = .ok (.invokevirtual 67, 3) := by decide +kernel
theorem dL_isMonthSo_47 : decode cL_isMonthSo 47 = .ok (.iload_n 2, 1) := by decide +kernel
theorem dL_isMonthSo_48 : decode cL_isMonthSo 48 = .ok (.if_icmp .ne 50, 3) := by decide +kernel
theorem dL_isMonthSo_51 : decode cL_isMonthSo 51 = .ok (.aload_n 0, 1) := by decide +kernel
theorem dL_isMonthSo_52 : decode cL_isMonthSo 52 = .ok (.iload_n 3, 1) := by decide +kernel
theorem dL_isMonthSo_53 : decode cL_isMonthSo 53 = .ok (.iconst 1, 1) := by decide +kernel
theorem dL_isMonthSo_54 : decode cL_isMonthSo 54 = .ok (.isub, 1) := by decide +kernel
theorem dL_isMonthSo_55 : decode cL_isMonthSo 55 = .ok (.invokevirtual 67, 3) := by decide +kernel
theorem dL_isMonthSo_58 : decode cL_isMonthSo 58 = .ok (.iload_n 2, 1) := by decide +kernel
theorem dL_isMonthSo_59 : decode cL_isMonthSo 59 = .ok (.iconst 1, 1) := by decide +kernel
theorem dL_isMonthSo_60 : decode cL_isMonthSo 60 = .ok (.isub, 1) := by decide +kernel
theorem dL_isMonthSo_61 : decode cL_isMonthSo 61 = .ok (.if_icmp .ne 37, 3) := by decide +kernel
theorem dL_isMonthSo_64 : decode cL_isMonthSo 64 = .ok (.aload_n 0, 1) := by decide +kernel
theorem dL_isMonthSo_65 : decode cL_isMonthSo 65 = .ok (.iload_n 1, 1) := by decide +kernel
theorem dL_isMonthSo_66 : decode cL_isMonthSo 66 = .ok (.iconst 1, 1) := by decide +kernel
theorem dL_isMonthSo_67 : decode cL_isMonthSo 67 = .ok (.iadd, 1) := by decide +kernel
theorem dL_isMonthSo_68 : decode cL_isMonthSo 68 = .ok (.invokevirtual 67, 3) := by decide +kernel
theorem dL_isMonthSo_71 : decode cL_isMonthSo 71 = .ok (.iload_n 2, 1) := by decide +kernel
theorem dL_isMonthSo_72 : decode cL_isMonthSo 72 = .ok (.isub, 1) := by decide +kernel
theorem dL_isMonthSo_73 : decode cL_isMonthSo 73 = .ok (.aload_n 0, 1) := by decide +kernel
theorem dL_isMonthSo_74 : decode cL_isMonthSo 74 = .ok (.iload_n 2, 1) := by decide +kernel
theorem dL_isMonthSo_75 : decode cL_isMonthSo 75 = .ok (.iconst 1, 1) := by decide +kernel
theorem dL_isMonthSo_76 : decode cL_isMonthSo 76 = .ok (.iadd, 1) := by decide +kernel
theorem dL_isMonthSo_77 : decode cL_isMonthSo 77 = .ok (.invokevirtual 110, 3) := by decide +kernel
theorem dL_isMonthSo_80 : decode cL_isMonthSo 80 = .ok (.iload_n 1, 1) := by decide +kernel
theorem dL_isMonthSo_81 : decode cL_isMonthSo 81 = .ok (.iconst 1, 1) := by decide +kernel
theorem dL_isMonthSo_82 : decode cL_isMonthSo 82 = .ok (.iadd, 1) := by decide +kernel
theorem dL_isMonthSo_83 : decode cL_isMonthSo 83 = .ok (.if_icmp .ne 7, 3) := by decide +kernel
theorem dL_isMonthSo_86 : decode cL_isMonthSo 86 = .ok (.iconst 1, 1) := by decide +kernel
theorem dL_isMonthSo_87 : decode cL_isMonthSo 87 = .ok (.goto 4, 3) := by decide +kernel
theorem dL_isMonthSo_90 : decode cL_isMonthSo 90 = .ok (.iconst 0, 1) := by decide +kernel
theorem dL_isMonthSo_91 : decode cL_isMonthSo 91 = .ok (.if_icmp .ne 7, 3) := by decide +kernel
theorem dL_isMonthSo_94 : decode cL_isMonthSo 94 = .ok (.iconst 1, 1) := by decide +kernel
theorem dL_isMonthSo_95 : decode cL_isMonthSo 95 = .ok (.goto 4, 3) := by decide +kernel
theorem dL_isMonthSo_98 : decode cL_isMonthSo 98 = .ok (.iconst 0, 1) := by decide +kernel
theorem dL_isMonthSo_99 : decode cL_isMonthSo 99 = .ok (.ireturn, 1) := by decide +kernel
set_option maxRecDepth 20000 in
theorem ggL_isDaySo_X0_year : GoodIn wsL_isDaySo wsX0_year := goodIn_ca (goodIn_r _ [6, 7, 8, 5, 9, 10, 11, 12, 13, 14, 15, 16, 17, 18, 19, 20, 21, 22, 23, 24, 25, 26, 27, 28, 29, 30, 31, 32, 33, 34, 106, 107, 108, 109, 110, 111, 112, 113, 114, 115] (by decide +kernel) (by decide +kernel)) (goodIn_sub (fun _ h => List.mem_cons_of_mem _ (List.mem_append_left _ (List.mem_append_right _ h))) (by decide +kernel))
set_option maxRecDepth 20000 in
theorem gL_isDaySo_X0_year : GoodIn wsL_isDaySo (wsV RL 73 RX0 yX0_year wsX0_year) := goodIn_app (goodIn_of _ (by decide +kernel)) ggL_isDaySo_X0_year
set_option maxRecDepth 20000 in
theorem ggL_isDaySo_X0_dayOf : GoodIn wsL_isDaySo wsX0_dayOf := goodIn_ca (goodIn_r _ [38, 26, 39, 40, 5, 41, 12, 13, 14, 15, 16, 17, 18, 19, 42, 43, 44, 45, 27, 25, 24, 46, 47, 48, 49, 50, 33, 51, 52, 53, 54, 55, 28, 29, 30, 31, 32, 34, 106, 107, 108, 109, 110, 111, 112, 113, 114, 115] (by decide +kernel) (by decide +kernel)) (goodIn_sub (fun _ h => List.mem_cons_of_mem _ (List.mem_append_left _ (List.mem_append_right _ h))) (by decide +kernel))
set_option maxRecDepth 20000 in
theorem gL_isDaySo_X0_dayOf : GoodIn wsL_isDaySo (wsV RL 32 RX0 yX0_dayOf wsX0_dayOf) := goodIn_app (goodIn_of _ (by decide +kernel)) ggL_isDaySo_X0_dayOf
set_option maxRecDepth 20000 in
theorem ggL_isDaySo_X0_placeInYear : GoodIn wsL_isDaySo wsX0_placeInYear := goodIn_ca (goodIn_r _ [59, 7, 8, 5, 9, 10, 11, 12, 13, 14, 15, 16, 17, 18, 19, 20, 21, 22, 23, 24, 25, 26, 27, 28, 29, 30, 31, 32, 33, 34, 52, 53, 54, 55, 106, 107, 108, 109, 110, 111, 112, 113, 114, 115] (by decide +kernel) (by decide +kernel)) (goodIn_sub (fun _ h => List.mem_cons_of_mem _ (List.mem_append_left _ (List.mem_append_right _ h))) (by decide +kernel))
set_option maxRecDepth 20000 in
theorem gL_isDaySo_X0_placeInYear : GoodIn wsL_isDaySo (wsV RL 76 RX0 yX0_placeInYear wsX0_placeInYear) := goodIn_app (goodIn_of _ (by decide +kernel)) ggL_isDaySo_X0_placeInYear
set_option maxRecDepth 20000 in
theorem ggL_isDaySo_L_dayOf : GoodIn wsL_isDaySo wsL_dayOf := goodIn_ca (goodIn_r _ [63, 64, 1, 35, 36, 37, 5, 38, 26, 39, 40, 41, 12, 13, 14, 15, 16, 17, 18, 19, 42, 43, 44, 45, 27, 25, 24, 46, 47, 48, 49, 50, 33, 51, 52, 53, 54, 55, 28, 29, 30, 31, 32, 34, 106, 107, 108, 109, 110, 111, 112, 113, 114, 115] (by decide +kernel) (by decide +kernel)) (goodIn_sub (fun _ h => List.mem_cons_of_mem _ (List.mem_append_left _ (List.mem_append_right _ h))) (by decide +kernel))
set_option maxRecDepth 20000 in
theorem gL_isDaySo_L_dayOf : GoodIn wsL_isDaySo (va_wsS RL 113 yL_dayOf wsL_dayOf) := goodIn_app (goodIn_of _ (by decide +kernel)) ggL_isDaySo_L_dayOf
set_option maxRecDepth 20000 in
theorem ggL_isDaySo_X0_isLeap : GoodIn wsL_isDaySo wsX0_isLeap := goodIn_ca (goodIn_r _ [68, 39, 40, 5, 41, 12, 13, 14, 15, 16, 17, 18, 19, 42, 43, 44, 45, 27, 25, 24, 46, 47, 48, 49, 50, 33, 51, 106, 107, 108, 109, 110, 111, 112, 113, 114, 115] (by decide +kernel) (by decide +kernel)) (goodIn_sub (fun _ h => List.mem_cons_of_mem _ (List.mem_append_left _ (List.mem_append_right _ h))) (by decide +kernel))
set_option maxRecDepth 20000 in
theorem gL_isDaySo_X0_isLeap : GoodIn wsL_isDaySo (wsV RL 115 RX0 yX0_isLeap wsX0_isLeap) := goodIn_app (goodIn_of _ (by decide +kernel)) ggL_isDaySo_X0_isLeap
set_option maxRecDepth 20000 in
theorem ggL_isDaySo_X0_markets : GoodIn wsL_isDaySo wsX0_markets := goodIn_r _ [72, 73, 106, 107, 108, 109, 110, 111, 112, 113, 114, 115] (by decide +kernel) (by decide +kernel)
set_option maxRecDepth 20000 in
theorem gL_isDaySo_X0_markets : GoodIn wsL_isDaySo (wsV RL 52 RX0 yX0_markets wsX0_markets) := goodIn_app (goodIn_of _ (by decide +kernel)) ggL_isDaySo_X0_markets
set_option maxRecDepth 20000 in
theorem ggL_isDaySo_X0_timesInYear : GoodIn wsL_isDaySo wsX0_timesInYear := goodIn_ca (goodIn_ca (goodIn_r _ [77, 78, 79, 80, 5, 81, 82, 83, 73, 12, 13, 14, 39, 40, 41, 15, 16, 17, 18, 19, 52, 53, 54, 55, 26, 27, 25, 24, 28, 29, 30, 31, 32, 33, 34, 84, 85, 86, 87, 88, 89, 90, 91, 92, 93, 94, 95, 96, 97, 98, 99, 100, 101, 106, 107, 108, 109, 110, 111, 112, 113, 114, 115] (by decide +kernel) (by decide +kernel)) (goodIn_sub (fun _ h => List.mem_cons_of_mem _ (List.mem_append_right _ h)) (by decide +kernel))) (goodIn_sub (fun _ h => List.mem_cons_of_mem _ (List.mem_append_left _ (List.mem_append_right _ h))) (by decide +kernel))
set_option maxRecDepth 20000 in
theorem gL_isDaySo_X0_timesInYear : GoodIn wsL_isDaySo (wsV RL 118 RX0 yX0_timesInYear wsX0_timesInYear) := goodIn_app (goodIn_of _ (by decide +kernel)) ggL_isDaySo_X0_timesInYear
set_option maxRecDepth 20000 in
theorem ggL_isDaySo_X0_times : GoodIn wsL_isDaySo wsX0_times := goodIn_ca (goodIn_ca (goodIn_r _ [105, 78, 79, 80, 5, 81, 82, 83, 73, 12, 13, 14, 7, 8, 9, 10, 11, 15, 16, 17, 18, 19, 84, 85, 86, 87, 88, 89, 90, 91, 92, 93, 94, 95, 96, 97, 98, 99, 100, 101, 28, 29, 30, 31, 32, 33, 34, 106, 107, 108, 109, 110, 111, 112, 113, 114, 115] (by decide +kernel) (by decide +kernel)) (goodIn_sub (fun _ h => List.mem_cons_of_mem _ (List.mem_append_right _ h)) (by decide +kernel))) (goodIn_sub (fun _ h => List.mem_cons_of_mem _ (List.mem_append_left _ (List.mem_append_right _ h))) (by decide +kernel))
set_option maxRecDepth 20000 in
theorem gL_isDaySo_X0_times : GoodIn wsL_isDaySo (wsV RL 89 RX0 yX0_times wsX0_times) := goodIn_app (goodIn_of _ (by decide +kernel)) ggL_isDaySo_X0_times
theorem dL_isDaySo_0 : decode cL_isDaySo 0 = .ok (.aload_n 0, 1) := by decide +kernel
theorem dL_isDaySo_1 : decode cL_isDaySo 1 = .ok (.iload_n 1, 1) := by decide +kernel
theorem dL_isDaySo_2 : decode cL_isDaySo 2 = .ok (.invokevirtual 73, 3) := by decide +kernel
theorem dL_isDaySo_5 : decode cL_isDaySo 5 = .ok (.istore_n 2, 1) := by decide +kernel
theorem dL_isDaySo_6 : decode cL_isDaySo 6 = .ok (.aload_n 0, 1) := by decide +kernel
theorem dL_isDaySo_7 : decode cL_isDaySo 7 = .ok (.iload_n 2, 1) := by decide +kernel
theorem dL_isDaySo_8 : decode cL_isDaySo 8 = .ok (.iconst 0, 1) := by decide +kernel
theorem dL_isDaySo_9 : decode cL_isDaySo 9 = .ok (.invokevirtual 32, 3) := by decide +kernel
theorem dL_isDaySo_12 : decode cL_isDaySo 12 = .ok (.istore_n 3, 1) := by decide +kernel
theorem dL_isDaySo_13 : decode cL_isDaySo 13 = .ok (.aload_n 0, 1) := by decide +kernel
theorem dL_isDaySo_14 : decode cL_isDaySo 14 = .ok (.iload_n 2, 1) := by decide +kernel
theorem dL_isDaySo_15 : decode cL_isDaySo 15 = .ok (.iconst 1, 1) := by decide +kernel
theorem dL_isDaySo_16 : decode cL_isDaySo 16 = .ok (.iadd, 1) := by decide +kernel
theorem dL_isDaySo_17 : decode cL_isDaySo 17 = .ok (.iconst 0, 1) := by decide +kernel
theorem dL_isDaySo_18 : decode cL_isDaySo 18 = .ok (.invokevirtual 32, 3) := by decide +kernel
theorem dL_isDaySo_21 : decode cL_isDaySo 21 = .ok (.iload_n 3, 1) := by decide +kernel
theorem dL_isDaySo_22 : decode cL_isDaySo 22 = .ok (.isub, 1) := by decide +kernel
theorem dL_isDaySo_23 : decode cL_isDaySo 23 = .ok (.istore 4, 2) := by decide +kernel
theorem dL_isDaySo_25 : decode cL_isDaySo 25 = .ok (.aload_n 0, 1) := by decide +kernel
theorem dL_isDaySo_26 : decode cL_isDaySo 26 = .ok (.iload_n 1, 1) := by decide +kernel
theorem dL_isDaySo_27 : decode cL_isDaySo 27 = .ok (.invokevirtual 76, 3) := by decide +kernel
theorem dL_isDaySo_30 : decode cL_isDaySo 30 = .ok (.iload_n 1, 1) := by decide +kernel
theorem dL_isDaySo_31 : decode cL_isDaySo 31 = .ok (.iload_n 3, 1) := by decide +kernel
theorem dL_isDaySo_32 : decode cL_isDaySo 32 = .ok (.isub, 1) := by decide +kernel
theorem dL_isDaySo_33 : decode cL_isDaySo 33 = .ok (.if_icmp .ne 68, 3) := by decide +kernel
theorem dL_isDaySo_36 : decode cL_isDaySo 36 = .ok (.aload_n 0, 1) := by decide +kernel
theorem dL_isDaySo_37 : decode cL_isDaySo 37 = .ok (.iload_n 2, 1) := by decide +kernel
theorem dL_isDaySo_38 : decode cL_isDaySo 38 = .ok (.iload_n 1, 1) := by decide +kernel
theorem dL_isDaySo_39 : decode cL_isDaySo 39 = .ok (.iload_n 3, 1) := by decide +kernel
theorem dL_isDaySo_40 : decode cL_isDaySo 40 = .ok (.isub, 1) := by decide +kernel
theorem dL_isDaySo_41 : decode cL_isDaySo 41 = .ok (.invokevirtual 32, 3) := by decide +kernel
theorem dL_isDaySo_44 : decode cL_isDaySo 44 = .ok (.iload_n 1, 1) := by decide +kernel
theorem dL_isDaySo_45 : decode cL_isDaySo 45 = .ok (.if_icmp .ne 56, 3) := by decide +kernel
theorem dL_isDaySo_48 : decode cL_isDaySo 48 = .ok (.iload_n 1, 1) := by decide +kernel
theorem dL_isDaySo_49 : decode cL_isDaySo 49 = .ok (.iload_n 3, 1) := by decide +kernel
theorem dL_isDaySo_50 : decode cL_isDaySo 50 = .ok (.isub, 1) := by decide +kernel
theorem dL_isDaySo_51 : decode cL_isDaySo 51 = .ok (.iload 4, 2) := by decide +kernel
theorem dL_isDaySo_53 : decode cL_isDaySo 53 = .ok (.if_icmp .ge 48, 3) := by decide +kernel
theorem dL_isDaySo_56 : decode cL_isDaySo 56 = .ok (.aload_n 0, 1) := by decide +kernel
theorem dL_isDaySo_57 : decode cL_isDaySo 57 = .ok (.iload_n 2, 1) := by decide +kernel
theorem dL_isDaySo_58 : decode cL_isDaySo 58 = .ok (.iload 4, 2) := by decide +kernel
theorem dL_isDaySo_60 : decode cL_isDaySo 60 = .ok (.invokestatic 113, 3) := by decide +kernel
theorem dL_isDaySo_63 : decode cL_isDaySo 63 = .ok (.ldc 35, 2) := by decide +kernel
theorem dL_isDaySo_65 : decode cL_isDaySo 65 = .ok (.if_icmp .ne 36, 3) := by decide +kernel
theorem dL_isDaySo_68 : decode cL_isDaySo 68 = .ok (.aload_n 0, 1) := by decide +kernel
theorem dL_isDaySo_69 : decode cL_isDaySo 69 = .ok (.iload_n 2, 1) := by decide +kernel
theorem dL_isDaySo_70 : decode cL_isDaySo 70 = .ok (.iload 4, 2) := by decide +kernel
theorem dL_isDaySo_72 : decode cL_isDaySo 72 = .ok (.iconst 1, 1) := by decide +kernel
theorem dL_isDaySo_73 : decode cL_isDaySo 73 = .ok (.isub, 1) := by decide +kernel
theorem dL_isDaySo_74 : decode cL_isDaySo 74 = .ok (.invokestatic 113, 3) := by decide +kernel
theorem dL_isDaySo_77 : decode cL_isDaySo 77 = .ok (.iload_n 3, 1) := by decide +kernel
theorem dL_isDaySo_78 : decode cL_isDaySo 78 = .ok (.iload 4, 2) := by decide +kernel
theorem dL_isDaySo_80 : decode cL_isDaySo 80 = .ok (.iadd, 1) := by decide +kernel
theorem dL_isDaySo_81 : decode cL_isDaySo 81 = .ok (.iconst 1, 1) := by decide +kernel
theorem dL_isDaySo_82 : decode cL_isDaySo 82 = .ok (.isub, 1) := by decide +kernel
theorem dL_isDaySo_83 : decode cL_isDaySo 83 = .ok (.if_icmp .ne 18, 3) := by decide +kernel
theorem dL_isDaySo_86 : decode cL_isDaySo 86 = .ok (.aload_n 0, 1) := by decide +kernel
theorem dL_isDaySo_87 : decode cL_isDaySo 87 = .ok (.iload_n 2, 1) := by decide +kernel
theorem dL_isDaySo_88 : decode cL_isDaySo 88 = .ok (.iconst (-1), 1) := by decide +kernel
theorem dL_isDaySo_89 : decode cL_isDaySo 89 = .ok (.invokestatic 113, 3) := by decide +kernel
theorem dL_isDaySo_92 : decode cL_isDaySo 92 = .ok (.ldc 35, 2) := by decide +kernel
theorem dL_isDaySo_94 : decode cL_isDaySo 94 = .ok (.if_icmp .ne 7, 3) := by decide +kernel
theorem dL_isDaySo_97 : decode cL_isDaySo 97 = .ok (.iconst 1, 1) := by decide +kernel
theorem dL_isDaySo_98 : decode cL_isDaySo 98 = .ok (.goto 4, 3) := by decide +kernel
theorem dL_isDaySo_101 : decode cL_isDaySo 101 = .ok (.iconst 0, 1) := by decide +kernel
theorem dL_isDaySo_102 : decode cL_isDaySo 102 = .ok (.istore 5, 2) := by decide +kernel
theorem dL_isDaySo_104 : decode cL_isDaySo 104 = .ok (.iload_n 3, 1) := by decide +kernel
theorem dL_isDaySo_105 : decode cL_isDaySo 105 = .ok (.aload_n 0, 1) := by decide +kernel
theorem dL_isDaySo_106 : decode cL_isDaySo 106 = .ok (.iload_n 2, 1) := by decide +kernel
theorem dL_isDaySo_107 : decode cL_isDaySo 107 = .ok (.iconst 1, 1) := by decide +kernel
theorem dL_isDaySo_108 : decode cL_isDaySo 108 = .ok (.isub, 1) := by decide +kernel
theorem dL_isDaySo_109 : decode cL_isDaySo 109 = .ok (.iconst 0, 1) := by decide +kernel
theorem dL_isDaySo_110 : decode cL_isDaySo 110 = .ok (.invokevirtual 32, 3) := by decide +kernel
theorem dL_isDaySo_113 : decode cL_isDaySo 113 = .ok (.isub, 1) := by decide +kernel
theorem dL_isDaySo_114 : decode cL_isDaySo 114 = .ok (.istore 6, 2) := by decide +kernel
theorem dL_isDaySo_116 : decode cL_isDaySo 116 = .ok (.iload 5, 2) := by decide +kernel
theorem dL_isDaySo_118 : decode cL_isDaySo 118 = .ok (.ifCond .eq 44, 3) := by decide +kernel
theorem dL_isDaySo_121 : decode cL_isDaySo 121 = .ok (.iload 4, 2) := by decide +kernel
theorem dL_isDaySo_123 : decode cL_isDaySo 123 = .ok (.iload 6, 2) := by decide +kernel
theorem dL_isDaySo_125 : decode cL_isDaySo 125 = .ok (.isub, 1) := by decide +kernel
theorem dL_isDaySo_126 : decode cL_isDaySo 126 = .ok (.aload_n 0, 1) := by decide +kernel
theorem dL_isDaySo_127 : decode cL_isDaySo 127 = .ok (.iload_n 2, 1) := by decide +kernel
theorem dL_isDaySo_128 : decode cL_isDaySo 128 = .ok (.invokevirtual 115, 3) := by decide +kernel
theorem dL_isDaySo_131 : decode cL_isDaySo 131 = .ok (.ifCond .eq 7, 3) := by decide +kernel
theorem dL_isDaySo_134 : decode cL_isDaySo 134 = .ok (.iconst 1, 1) := by decide +kernel
theorem dL_isDaySo_135 : decode cL_isDaySo 135 = .ok (.goto 4, 3) := by decide +kernel
theorem dL_isDaySo_138 : decode cL_isDaySo 138 = .ok (.iconst 0, 1) := by decide +kernel
theorem dL_isDaySo_139 : decode cL_isDaySo 139 = .ok (.aload_n 0, 1) := by decide +kernel
theorem dL_isDaySo_140 : decode cL_isDaySo 140 = .ok (.iload_n 2, 1) := by decide +kernel
theorem dL_isDaySo_141 : decode cL_isDaySo 141 = .ok (.iconst 1, 1) := by decide +kernel
theorem dL_isDaySo_142 : decode cL_isDaySo 142 = .ok (.isub, 1) := by decide +kernel
theorem dL_isDaySo_143 : decode cL_isDaySo 143 = .ok (.invokevirtual 115, 3) := by decide +kernel
theorem dL_isDaySo_146 : decode cL_isDaySo 146 = .ok (.ifCond .eq 7, 3) := by decide +kernel
theorem dL_isDaySo_149 : decode cL_isDaySo 149 = .ok (.iconst 1, 1) := by decide +kernel
theorem dL_isDaySo_150 : decode cL_isDaySo 150 = .ok (.goto 4, 3) := by decide +kernel
theorem dL_isDaySo_153 : decode cL_isDaySo 153 = .ok (.iconst 0, 1) := by decide +kernel
theorem dL_isDaySo_154 : decode cL_isDaySo 154 = .ok (.isub, 1) := by decide +kernel
theorem dL_isDaySo_155 : decode cL_isDaySo 155 = .ok (.if_icmp .ne 7, 3) := by decide +kernel
theorem dL_isDaySo_158 : decode cL_isDaySo 158 = .ok (.iconst 1, 1) := by decide +kernel
theorem dL_isDaySo_159 : decode cL_isDaySo 159 = .ok (.goto 4, 3) := by decide +kernel
theorem dL_isDaySo_162 : decode cL_isDaySo 162 = .ok (.iconst 0, 1) := by decide +kernel
theorem dL_isDaySo_163 : decode cL_isDaySo 163 = .ok (.istore 5, 2) := by decide +kernel
theorem dL_isDaySo_165 : decode cL_isDaySo 165 = .ok (.aload_n 0, 1) := by decide +kernel
theorem dL_isDaySo_166 : decode cL_isDaySo 166 = .ok (.invokevirtual 52, 3) := by decide +kernel
theorem dL_isDaySo_169 : decode cL_isDaySo 169 = .ok (.istore 7, 2) := by decide +kernel
theorem dL_isDaySo_171 : decode cL_isDaySo 171 = .ok (.iload 5, 2) := by decide +kernel
theorem dL_isDaySo_173 : decode cL_isDaySo 173 = .ok (.ifCond .eq 39, 3) := by decide +kernel
theorem dL_isDaySo_176 : decode cL_isDaySo 176 = .ok (.iload 7, 2) := by decide +kernel
theorem dL_isDaySo_178 : decode cL_isDaySo 178 = .ok (.ifCond .eq 30, 3) := by decide +kernel
theorem dL_isDaySo_181 : decode cL_isDaySo 181 = .ok (.aload_n 0, 1) := by decide +kernel
theorem dL_isDaySo_182 : decode cL_isDaySo 182 = .ok (.iload 7, 2) := by decide +kernel
theorem dL_isDaySo_184 : decode cL_isDaySo 184 = .ok (.iconst 1, 1) := by decide +kernel
theorem dL_isDaySo_185 : decode cL_isDaySo 185 = .ok (.isub, 1) := by decide +kernel
theorem dL_isDaySo_186 : decode cL_isDaySo 186 = .ok (.iload_n 2, 1) := by decide +kernel
theorem dL_isDaySo_187 : decode cL_isDaySo 187 = .ok (.invokevirtual 118, 3) := by decide +kernel
theorem dL_isDaySo_190 : decode cL_isDaySo 190 = .ok (.aload_n 0, 1) := by decide +kernel
theorem dL_isDaySo_191 : decode cL_isDaySo 191 = .ok (.iload 7, 2) := by decide +kernel
theorem dL_isDaySo_193 : decode cL_isDaySo 193 = .ok (.iconst 1, 1) := by decide +kernel
theorem dL_isDaySo_194 : decode cL_isDaySo 194 = .ok (.isub, 1) := by decide +kernel
theorem dL_isDaySo_195 : decode cL_isDaySo 195 = .ok (.iload_n 3, 1) := by decide +kernel
theorem dL_isDaySo_196 : decode cL_isDaySo 196 = .ok (.iload_n 3, 1) := by decide +kernel
theorem dL_isDaySo_197 : decode cL_isDaySo 197 = .ok (.iload 4, 2) := by decide +kernel
theorem dL_isDaySo_199 : decode cL_isDaySo 199 = .ok (.iadd, 1) := by decide +kernel
theorem dL_isDaySo_200 : decode cL_isDaySo 200 = .ok (.iconst 1, 1) := by decide +kernel
theorem dL_isDaySo_201 : decode cL_isDaySo 201 = .ok (.isub, 1) := by decide +kernel
theorem dL_isDaySo_202 : decode cL_isDaySo 202 = .ok (.invokevirtual 89, 3) := by decide +kernel
theorem dL_isDaySo_205 : decode cL_isDaySo 205 = .ok (.if_icmp .ne 7, 3) := by decide +kernel
theorem dL_isDaySo_208 : decode cL_isDaySo 208 = .ok (.iconst 1, 1) := by decide +kernel
theorem dL_isDaySo_209 : decode cL_isDaySo 209 = .ok (.goto 4, 3) := by decide +kernel
theorem dL_isDaySo_212 : decode cL_isDaySo 212 = .ok (.iconst 0, 1) := by decide +kernel
theorem dL_isDaySo_213 : decode cL_isDaySo 213 = .ok (.ireturn, 1) := by decide +kernel
