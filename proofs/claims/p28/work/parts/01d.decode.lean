theorem dX4_checkWeather_69 : decode cX4_checkWeather 69 = .ok (.if_icmp .le 13, 3) := by decide +kernel
theorem dX4_checkWeather_72 : decode cX4_checkWeather 72 = .ok (.new 92, 3) := by decide +kernel
theorem dX4_checkWeather_75 : decode cX4_checkWeather 75 = .ok (.dup, 1) := by decide +kernel
theorem dX4_checkWeather_76 : decode cX4_checkWeather 76 = .ok (.ldc 253, 2) := by decide +kernel
theorem dX4_checkWeather_78 : decode cX4_checkWeather 78 = .ok (.invokespecial 96, 3) := by decide +kernel
theorem dX4_checkWeather_81 : decode cX4_checkWeather 81 = .ok (.athrow, 1) := by decide +kernel
theorem dX4_checkWeather_82 : decode cX4_checkWeather 82 = .ok (.return_, 1) := by decide +kernel
theorem dX4_bit_0 : decode cX4_bit 0 = .ok (.iload_n 0, 1) := by decide +kernel
theorem dX4_bit_1 : decode cX4_bit 1 = .ok (.iload_n 1, 1) := by decide +kernel
theorem dX4_bit_2 : decode cX4_bit 2 = .ok (.ishr, 1) := by decide +kernel
theorem dX4_bit_3 : decode cX4_bit 3 = .ok (.iconst 1, 1) := by decide +kernel
theorem dX4_bit_4 : decode cX4_bit 4 = .ok (.iand, 1) := by decide +kernel
theorem dX4_bit_5 : decode cX4_bit 5 = .ok (.ireturn, 1) := by decide +kernel
set_option maxRecDepth 20000 in
theorem ggX4_verdict_X1_read : GoodIn wsX4_verdict wsX1_read := goodIn_r _ [7, 8, 9, 10, 6, 11, 33, 34, 35] (by decide +kernel) (by decide +kernel)
set_option maxRecDepth 20000 in
theorem gX4_verdict_X1_read : GoodIn wsX4_verdict (wsV RX4 158 RX1 yX1_read wsX1_read) := goodIn_app (goodIn_of _ (by decide +kernel)) ggX4_verdict_X1_read
set_option maxRecDepth 20000 in
theorem ggX4_verdict_X0_activityOn : GoodIn wsX4_verdict wsX0_activityOn := goodIn_r _ [16, 17, 36, 37, 38, 39, 40] (by decide +kernel) (by decide +kernel)
set_option maxRecDepth 20000 in
theorem gX4_verdict_X0_activityOn : GoodIn wsX4_verdict (wsV RX4 176 RX0 yX0_activityOn wsX0_activityOn) := goodIn_app (goodIn_of _ (by decide +kernel)) ggX4_verdict_X0_activityOn
set_option maxRecDepth 20000 in
theorem ggX4_verdict_X4_leastActivity : GoodIn wsX4_verdict wsX4_leastActivity := goodIn_r _ [21] (by decide +kernel) (by decide +kernel)
set_option maxRecDepth 20000 in
theorem gX4_verdict_X4_leastActivity : GoodIn wsX4_verdict (va_wsS RX4 255 yX4_leastActivity wsX4_leastActivity) := goodIn_app (goodIn_of _ (by decide +kernel)) ggX4_verdict_X4_leastActivity
set_option maxRecDepth 20000 in
theorem ggX4_verdict_X4_greatestActivity : GoodIn wsX4_verdict wsX4_greatestActivity := goodIn_r _ [24, 25] (by decide +kernel) (by decide +kernel)
set_option maxRecDepth 20000 in
theorem gX4_verdict_X4_greatestActivity : GoodIn wsX4_verdict (va_wsS RX4 258 yX4_greatestActivity wsX4_greatestActivity) := goodIn_app (goodIn_of _ (by decide +kernel)) ggX4_verdict_X4_greatestActivity
theorem dX4_verdict_0 : decode cX4_verdict 0 = .ok (.aload_n 0, 1) := by decide +kernel
theorem dX4_verdict_1 : decode cX4_verdict 1 = .ok (.getfield 23, 3) := by decide +kernel
theorem dX4_verdict_4 : decode cX4_verdict 4 = .ok (.iload_n 1, 1) := by decide +kernel
theorem dX4_verdict_5 : decode cX4_verdict 5 = .ok (.iload_n 2, 1) := by decide +kernel
theorem dX4_verdict_6 : decode cX4_verdict 6 = .ok (.iconst 0, 1) := by decide +kernel
theorem dX4_verdict_7 : decode cX4_verdict 7 = .ok (.invokevirtual 158, 3) := by decide +kernel
theorem dX4_verdict_10 : decode cX4_verdict 10 = .ok (.istore_n 3, 1) := by decide +kernel
theorem dX4_verdict_11 : decode cX4_verdict 11 = .ok (.aload_n 0, 1) := by decide +kernel
theorem dX4_verdict_12 : decode cX4_verdict 12 = .ok (.getfield 30, 3) := by decide +kernel
theorem dX4_verdict_15 : decode cX4_verdict 15 = .ok (.iload_n 1, 1) := by decide +kernel
theorem dX4_verdict_16 : decode cX4_verdict 16 = .ok (.iload_n 2, 1) := by decide +kernel
theorem dX4_verdict_17 : decode cX4_verdict 17 = .ok (.invokevirtual 176, 3) := by decide +kernel
theorem dX4_verdict_20 : decode cX4_verdict 20 = .ok (.istore 4, 2) := by decide +kernel
theorem dX4_verdict_22 : decode cX4_verdict 22 = .ok (.iload 4, 2) := by decide +kernel
theorem dX4_verdict_24 : decode cX4_verdict 24 = .ok (.iload_n 3, 1) := by decide +kernel
theorem dX4_verdict_25 : decode cX4_verdict 25 = .ok (.invokestatic 255, 3) := by decide +kernel
theorem dX4_verdict_28 : decode cX4_verdict 28 = .ok (.if_icmp .ge 5, 3) := by decide +kernel
theorem dX4_verdict_31 : decode cX4_verdict 31 = .ok (.iconst (-1), 1) := by decide +kernel
theorem dX4_verdict_32 : decode cX4_verdict 32 = .ok (.ireturn, 1) := by decide +kernel
theorem dX4_verdict_33 : decode cX4_verdict 33 = .ok (.iload 4, 2) := by decide +kernel
theorem dX4_verdict_35 : decode cX4_verdict 35 = .ok (.iload_n 3, 1) := by decide +kernel
theorem dX4_verdict_36 : decode cX4_verdict 36 = .ok (.invokestatic 258, 3) := by decide +kernel
theorem dX4_verdict_39 : decode cX4_verdict 39 = .ok (.if_icmp .le 7, 3) := by decide +kernel
theorem dX4_verdict_42 : decode cX4_verdict 42 = .ok (.iconst 1, 1) := by decide +kernel
theorem dX4_verdict_43 : decode cX4_verdict 43 = .ok (.goto 4, 3) := by decide +kernel
theorem dX4_verdict_46 : decode cX4_verdict 46 = .ok (.iconst 0, 1) := by decide +kernel
theorem dX4_verdict_47 : decode cX4_verdict 47 = .ok (.ireturn, 1) := by decide +kernel
theorem dX4_leastActivity_0 : decode cX4_leastActivity 0 = .ok (.iload_n 0, 1) := by decide +kernel
theorem dX4_leastActivity_1 : decode cX4_leastActivity 1 = .ok (.tableswitch 35 3 5 #[27, 29, 32], 27) := by decide +kernel
theorem dX4_leastActivity_28 : decode cX4_leastActivity 28 = .ok (.iconst 4, 1) := by decide +kernel
theorem dX4_leastActivity_29 : decode cX4_leastActivity 29 = .ok (.ireturn, 1) := by decide +kernel
theorem dX4_leastActivity_30 : decode cX4_leastActivity 30 = .ok (.bipush 25, 2) := by decide +kernel
theorem dX4_leastActivity_32 : decode cX4_leastActivity 32 = .ok (.ireturn, 1) := by decide +kernel
theorem dX4_leastActivity_33 : decode cX4_leastActivity 33 = .ok (.bipush 80, 2) := by decide +kernel
theorem dX4_leastActivity_35 : decode cX4_leastActivity 35 = .ok (.ireturn, 1) := by decide +kernel
theorem dX4_leastActivity_36 : decode cX4_leastActivity 36 = .ok (.iconst 0, 1) := by decide +kernel
theorem dX4_leastActivity_37 : decode cX4_leastActivity 37 = .ok (.ireturn, 1) := by decide +kernel
theorem dX4_greatestActivity_0 : decode cX4_greatestActivity 0 = .ok (.iload_n 0, 1) := by decide +kernel
theorem dX4_greatestActivity_1 : decode cX4_greatestActivity 1 = .ok (.tableswitch 42 1 4 #[31, 33, 36, 39], 31) := by decide +kernel
theorem dX4_greatestActivity_32 : decode cX4_greatestActivity 32 = .ok (.iconst 1, 1) := by decide +kernel
theorem dX4_greatestActivity_33 : decode cX4_greatestActivity 33 = .ok (.ireturn, 1) := by decide +kernel
theorem dX4_greatestActivity_34 : decode cX4_greatestActivity 34 = .ok (.bipush 9, 2) := by decide +kernel
theorem dX4_greatestActivity_36 : decode cX4_greatestActivity 36 = .ok (.ireturn, 1) := by decide +kernel
theorem dX4_greatestActivity_37 : decode cX4_greatestActivity 37 = .ok (.bipush 40, 2) := by decide +kernel
theorem dX4_greatestActivity_39 : decode cX4_greatestActivity 39 = .ok (.ireturn, 1) := by decide +kernel
theorem dX4_greatestActivity_40 : decode cX4_greatestActivity 40 = .ok (.bipush 120, 2) := by decide +kernel
theorem dX4_greatestActivity_42 : decode cX4_greatestActivity 42 = .ok (.ireturn, 1) := by decide +kernel
theorem dX4_greatestActivity_43 : decode cX4_greatestActivity 43 = .ok (.ldc_w 263, 3) := by decide +kernel
theorem dX4_greatestActivity_46 : decode cX4_greatestActivity 46 = .ok (.ireturn, 1) := by decide +kernel
theorem dJ9_max_7cf53_0 : decode cJ9_max_7cf53 0 = .ok (.iload_n 0, 1) := by decide +kernel
theorem dJ9_max_7cf53_1 : decode cJ9_max_7cf53 1 = .ok (.iload_n 1, 1) := by decide +kernel
theorem dJ9_max_7cf53_2 : decode cJ9_max_7cf53 2 = .ok (.if_icmp .lt 7, 3) := by decide +kernel
theorem dJ9_max_7cf53_5 : decode cJ9_max_7cf53 5 = .ok (.iload_n 0, 1) := by decide +kernel
theorem dJ9_max_7cf53_6 : decode cJ9_max_7cf53 6 = .ok (.goto 4, 3) := by decide +kernel
theorem dJ9_max_7cf53_9 : decode cJ9_max_7cf53 9 = .ok (.iload_n 1, 1) := by decide +kernel
theorem dJ9_max_7cf53_10 : decode cJ9_max_7cf53 10 = .ok (.ireturn, 1) := by decide +kernel
theorem dJ9_min_7cf53_0 : decode cJ9_min_7cf53 0 = .ok (.iload_n 0, 1) := by decide +kernel
theorem dJ9_min_7cf53_1 : decode cJ9_min_7cf53 1 = .ok (.iload_n 1, 1) := by decide +kernel
theorem dJ9_min_7cf53_2 : decode cJ9_min_7cf53 2 = .ok (.if_icmp .gt 7, 3) := by decide +kernel
theorem dJ9_min_7cf53_5 : decode cJ9_min_7cf53 5 = .ok (.iload_n 0, 1) := by decide +kernel
theorem dJ9_min_7cf53_6 : decode cJ9_min_7cf53 6 = .ok (.goto 4, 3) := by decide +kernel
theorem dJ9_min_7cf53_9 : decode cJ9_min_7cf53 9 = .ok (.iload_n 1, 1) := by decide +kernel
theorem dJ9_min_7cf53_10 : decode cJ9_min_7cf53 10 = .ok (.ireturn, 1) := by decide +kernel
theorem dL_below_0 : decode cL_below 0 = .ok (.iload_n 0, 1) := by decide +kernel
theorem dL_below_1 : decode cL_below 1 = .ok (.ldc 7, 2) := by decide +kernel
theorem dL_below_3 : decode cL_below 3 = .ok (.iand, 1) := by decide +kernel
theorem dL_below_4 : decode cL_below 4 = .ok (.iload_n 1, 1) := by decide +kernel
theorem dL_below_5 : decode cL_below 5 = .ok (.irem, 1) := by decide +kernel
theorem dL_below_6 : decode cL_below 6 = .ok (.ireturn, 1) := by decide +kernel
theorem dL_cell_0 : decode cL_cell 0 = .ok (.iload_n 1, 1) := by decide +kernel
theorem dL_cell_1 : decode cL_cell 1 = .ok (.aload_n 0, 1) := by decide +kernel
theorem dL_cell_2 : decode cL_cell 2 = .ok (.arraylength, 1) := by decide +kernel
theorem dL_cell_3 : decode cL_cell 3 = .ok (.if_icmp .ge 9, 3) := by decide +kernel
theorem dL_cell_6 : decode cL_cell 6 = .ok (.aload_n 0, 1) := by decide +kernel
theorem dL_cell_7 : decode cL_cell 7 = .ok (.iload_n 1, 1) := by decide +kernel
theorem dL_cell_8 : decode cL_cell 8 = .ok (.iaload, 1) := by decide +kernel
theorem dL_cell_9 : decode cL_cell 9 = .ok (.goto 9, 3) := by decide +kernel
theorem dL_cell_12 : decode cL_cell 12 = .ok (.ldc 8, 2) := by decide +kernel
theorem dL_cell_14 : decode cL_cell 14 = .ok (.iload_n 1, 1) := by decide +kernel
theorem dL_cell_15 : decode cL_cell 15 = .ok (.iconst 3, 1) := by decide +kernel
theorem dL_cell_16 : decode cL_cell 16 = .ok (.iadd, 1) := by decide +kernel
theorem dL_cell_17 : decode cL_cell 17 = .ok (.imul, 1) := by decide +kernel
theorem dL_cell_18 : decode cL_cell 18 = .ok (.ireturn, 1) := by decide +kernel
set_option maxRecDepth 20000 in
theorem ggL_law_X4_init : GoodIn wsL_law wsX4_init := goodIn_r _ [10, 11, 12, 13, 14, 15, 16, 17, 18, 19, 20, 21, 22, 23, 24, 25, 26, 27, 28, 29, 30, 31, 32, 33, 34, 35, 36, 37, 38, 39, 40, 41, 42, 43, 44, 45, 46, 47, 48, 49, 50, 51, 52, 53, 284, 285, 286, 287, 288, 289, 290, 291, 292, 293, 294, 295, 296, 297, 298, 299, 300, 301, 302, 303, 304, 305, 306, 307] (by decide +kernel) (by decide +kernel)
set_option maxRecDepth 20000 in
theorem gL_law_X4_init : GoodIn wsL_law (wsX4_init) := ggL_law_X4_init
set_option maxRecDepth 20000 in
theorem ggL_law_L_cell : GoodIn wsL_law wsL_cell := goodIn_r _ [57, 58] (by decide +kernel) (by decide +kernel)
set_option maxRecDepth 20000 in
theorem gL_law_L_cell : GoodIn wsL_law (va_wsS RL 12 yL_cell wsL_cell) := goodIn_app (goodIn_of _ (by decide +kernel)) ggL_law_L_cell
set_option maxRecDepth 20000 in
theorem ggL_law_L_below : GoodIn wsL_law wsL_below := goodIn_r _ [61, 62] (by decide +kernel) (by decide +kernel)
set_option maxRecDepth 20000 in
theorem gL_law_L_below : GoodIn wsL_law (va_wsS RL 18 yL_below wsL_below) := goodIn_app (goodIn_of _ (by decide +kernel)) ggL_law_L_below
set_option maxRecDepth 20000 in
theorem ggL_law_X4_addRegion : GoodIn wsL_law wsX4_addRegion := goodIn_ca (goodIn_r _ [66, 67, 68, 69, 284, 285, 286, 287, 288, 289, 290] (by decide +kernel) (by decide +kernel)) (goodIn_sub (fun _ h => List.mem_append_left _ (List.mem_append_left _ (List.mem_append_right _ h))) (by decide +kernel))
set_option maxRecDepth 20000 in
theorem gL_law_X4_addRegion : GoodIn wsL_law (wsV RL 22 RX4 yX4_addRegion wsX4_addRegion) := goodIn_app (goodIn_of _ (by decide +kernel)) ggL_law_X4_addRegion
set_option maxRecDepth 20000 in
theorem ggL_law_X4_weather : GoodIn wsL_law wsX4_weather := goodIn_ca (goodIn_ca (goodIn_r _ [73, 15, 74, 75, 76, 2, 77, 78, 79, 69, 80, 81, 82, 83, 84, 85, 86, 87, 17, 88, 89, 90, 91, 92, 36, 284, 285, 286, 287, 288, 289, 290, 291, 292, 293, 294, 295, 296] (by decide +kernel) (by decide +kernel)) (goodIn_sub (fun _ h => List.mem_append_left _ (List.mem_append_right _ h)) (by decide +kernel))) (goodIn_sub (fun _ h => List.mem_append_right _ h) (by decide +kernel))
set_option maxRecDepth 20000 in
theorem gL_law_X4_weather : GoodIn wsL_law (wsV RL 26 RX4 yX4_weather wsX4_weather) := goodIn_app (goodIn_of _ (by decide +kernel)) ggL_law_X4_weather
set_option maxRecDepth 20000 in
theorem ggL_law_X4_see : GoodIn wsL_law wsX4_see := goodIn_ca (goodIn_ca (goodIn_ca (goodIn_r _ [96, 83, 84, 67, 68, 26, 97, 74, 75, 76, 2, 77, 78, 79, 69, 98, 99, 100, 101, 102, 103, 25, 104, 105, 106, 107, 108, 109, 45, 46, 47, 48, 110, 111, 112, 113, 284, 285, 286, 287, 288, 289, 290, 300, 301, 302, 303, 304] (by decide +kernel) (by decide +kernel)) (goodIn_sub (fun _ h => List.mem_append_right _ h) (by decide +kernel))) (goodIn_sub (fun _ h => List.mem_append_left _ (List.mem_append_left _ (List.mem_append_right _ h))) (by decide +kernel))) (goodIn_sub (fun _ h => List.mem_append_left _ (List.mem_append_right _ h)) (by decide +kernel))
set_option maxRecDepth 20000 in
theorem gL_law_X4_see : GoodIn wsL_law (wsV RL 30 RX4 yX4_see wsX4_see) := goodIn_app (goodIn_of _ (by decide +kernel)) ggL_law_X4_see
set_option maxRecDepth 20000 in
theorem ggL_law_X4_level : GoodIn wsL_law wsX4_level := goodIn_ca (goodIn_r _ [117, 15, 74, 75, 76, 2, 77, 78, 79, 69, 118, 119, 120, 17, 121, 122, 123, 5, 124, 125, 4, 6, 126, 127, 128, 129, 130, 131, 132, 133, 134, 135, 136, 137, 35, 138, 139, 140, 284, 285, 286, 287, 288, 289, 290, 291, 292, 293, 294, 295, 296] (by decide +kernel) (by decide +kernel)) (goodIn_sub (fun _ h => List.mem_append_left _ (List.mem_append_right _ h)) (by decide +kernel))
set_option maxRecDepth 20000 in
theorem gL_law_X4_level : GoodIn wsL_law (wsV RL 34 RX4 yX4_level wsX4_level) := goodIn_app (goodIn_of _ (by decide +kernel)) ggL_law_X4_level
set_option maxRecDepth 20000 in
theorem ggL_law_X4_core : GoodIn wsL_law wsX4_core := goodIn_ca (goodIn_r _ [144, 15, 74, 75, 76, 2, 77, 78, 79, 69, 118, 119, 120, 17, 121, 122, 123, 5, 124, 125, 4, 6, 126, 127, 128, 129, 130, 131, 132, 133, 134, 135, 136, 137, 35, 138, 139, 140, 145, 146, 147, 148, 284, 285, 286, 287, 288, 289, 290, 291, 292, 293, 294, 295, 296] (by decide +kernel) (by decide +kernel)) (goodIn_sub (fun _ h => List.mem_append_left _ (List.mem_append_right _ h)) (by decide +kernel))
set_option maxRecDepth 20000 in
theorem gL_law_X4_core : GoodIn wsL_law (wsV RL 38 RX4 yX4_core wsX4_core) := goodIn_app (goodIn_of _ (by decide +kernel)) ggL_law_X4_core
set_option maxRecDepth 20000 in
theorem ggL_law_X4_sector : GoodIn wsL_law wsX4_sector := goodIn_ca (goodIn_r _ [152, 15, 74, 75, 76, 2, 77, 78, 79, 69, 98, 99, 100, 153, 154, 155, 156, 135, 136, 17, 137, 35, 284, 285, 286, 287, 288, 289, 290, 291, 292, 293, 294, 295, 296] (by decide +kernel) (by decide +kernel)) (goodIn_sub (fun _ h => List.mem_append_left _ (List.mem_append_right _ h)) (by decide +kernel))
set_option maxRecDepth 20000 in
theorem gL_law_X4_sector : GoodIn wsL_law (wsV RL 41 RX4 yX4_sector wsX4_sector) := goodIn_app (goodIn_of _ (by decide +kernel)) ggL_law_X4_sector
set_option maxRecDepth 20000 in
theorem ggL_law_X4_danger : GoodIn wsL_law wsX4_danger := goodIn_ca (goodIn_r _ [160, 15, 74, 75, 76, 2, 77, 78, 79, 69, 98, 99, 100, 161, 127, 128, 17, 129, 122, 123, 5, 124, 125, 4, 6, 130, 131, 132, 133, 134, 135, 136, 137, 35, 162, 139, 140, 284, 285, 286, 287, 288, 289, 290, 291, 292, 293, 294, 295, 296] (by decide +kernel) (by decide +kernel)) (goodIn_sub (fun _ h => List.mem_append_left _ (List.mem_append_right _ h)) (by decide +kernel))
set_option maxRecDepth 20000 in
theorem gL_law_X4_danger : GoodIn wsL_law (wsV RL 44 RX4 yX4_danger wsX4_danger) := goodIn_app (goodIn_of _ (by decide +kernel)) ggL_law_X4_danger
set_option maxRecDepth 20000 in
theorem ggL_law_X4_problem : GoodIn wsL_law wsX4_problem := goodIn_ca (goodIn_r _ [166, 78, 79, 15, 74, 75, 76, 2, 77, 69, 98, 99, 100, 167, 131, 132, 17, 133, 122, 123, 5, 124, 134, 135, 136, 137, 35, 284, 285, 286, 287, 288, 289, 290, 291, 292, 293, 294, 295, 296] (by decide +kernel) (by decide +kernel)) (goodIn_sub (fun _ h => List.mem_append_left _ (List.mem_append_right _ h)) (by decide +kernel))
set_option maxRecDepth 20000 in
theorem gL_law_X4_problem : GoodIn wsL_law (wsV RL 48 RX4 yX4_problem wsX4_problem) := goodIn_app (goodIn_of _ (by decide +kernel)) ggL_law_X4_problem
set_option maxRecDepth 20000 in
theorem ggL_law_X4_publish : GoodIn wsL_law wsX4_publish := goodIn_ca (goodIn_r _ [171, 67, 68, 22, 97, 69, 15, 172, 4, 5, 6, 173, 174, 175, 21, 176, 177, 178, 179, 180, 40, 118, 119, 120, 17, 121, 122, 123, 124, 125, 126, 127, 128, 129, 130, 131, 132, 133, 134, 135, 136, 137, 35, 138, 139, 140, 145, 146, 147, 148, 181, 182, 183, 184, 185, 186, 187, 188, 189, 2, 190, 191, 192, 193, 194, 41, 195, 196, 197, 198, 199, 200, 201, 202, 284, 285, 286, 287, 288, 289, 290, 297, 298, 299, 291, 292, 293, 294, 295, 296] (by decide +kernel) (by decide +kernel)) (goodIn_sub (fun _ h => List.mem_append_left _ (List.mem_append_left _ (List.mem_append_right _ h))) (by decide +kernel))
set_option maxRecDepth 20000 in
theorem gL_law_X4_publish : GoodIn wsL_law (wsV RL 56 RX4 yX4_publish wsX4_publish) := goodIn_app (goodIn_of _ (by decide +kernel)) ggL_law_X4_publish
set_option maxRecDepth 20000 in
theorem ggL_law_X4_mainProblem : GoodIn wsL_law wsX4_mainProblem := goodIn_ca (goodIn_r _ [206, 15, 74, 75, 76, 2, 77, 78, 79, 69, 118, 119, 120, 17, 121, 122, 123, 5, 124, 125, 4, 6, 126, 127, 128, 129, 130, 131, 132, 133, 134, 135, 136, 137, 35, 138, 139, 140, 145, 146, 147, 148, 181, 182, 183, 184, 185, 186, 187, 188, 189, 190, 284, 285, 286, 287, 288, 289, 290, 291, 292, 293, 294, 295, 296] (by decide +kernel) (by decide +kernel)) (goodIn_sub (fun _ h => List.mem_append_left _ (List.mem_append_right _ h)) (by decide +kernel))
set_option maxRecDepth 20000 in
theorem gL_law_X4_mainProblem : GoodIn wsL_law (wsV RL 60 RX4 yX4_mainProblem wsX4_mainProblem) := goodIn_app (goodIn_of _ (by decide +kernel)) ggL_law_X4_mainProblem
set_option maxRecDepth 20000 in
theorem ggL_law_X4_borneOut : GoodIn wsL_law wsX4_borneOut := goodIn_ca (goodIn_r _ [210, 83, 84, 97, 69, 22, 211, 178, 179, 21, 180, 40, 212, 213, 214, 2, 215, 26, 216, 217, 218, 219, 41, 195, 196, 197, 110, 111, 112, 25, 113, 48, 220, 221, 222, 223, 224, 225, 226, 284, 285, 286, 287, 288, 289, 290, 297, 298, 299, 300, 301, 302, 303, 304] (by decide +kernel) (by decide +kernel)) (goodIn_sub (fun _ h => List.mem_append_right _ h) (by decide +kernel))
set_option maxRecDepth 20000 in
theorem gL_law_X4_borneOut : GoodIn wsL_law (wsV RL 63 RX4 yX4_borneOut wsX4_borneOut) := goodIn_app (goodIn_of _ (by decide +kernel)) ggL_law_X4_borneOut
set_option maxRecDepth 20000 in
theorem ggL_law_X4_bulletin : GoodIn wsL_law wsX4_bulletin := goodIn_ca (goodIn_r _ [230, 78, 79, 22, 211, 178, 179, 21, 180, 40, 216, 217, 218, 219, 41, 195, 196, 197, 284, 285, 286, 287, 288, 289, 290, 297, 298, 299] (by decide +kernel) (by decide +kernel)) (goodIn_sub (fun _ h => List.mem_append_left _ (List.mem_append_right _ h)) (by decide +kernel))
set_option maxRecDepth 20000 in
theorem gL_law_X4_bulletin : GoodIn wsL_law (wsV RL 66 RX4 yX4_bulletin wsX4_bulletin) := goodIn_app (goodIn_of _ (by decide +kernel)) ggL_law_X4_bulletin
set_option maxRecDepth 20000 in
theorem ggL_law_X4_end : GoodIn wsL_law wsX4_end := goodIn_ca (goodIn_r _ [234, 67, 68, 97, 69, 15, 235, 236, 237, 17, 238, 36, 90, 239, 240, 241, 242, 134, 135, 136, 137, 35, 243, 244, 245, 246, 122, 123, 5, 124, 247, 248, 249, 250, 251, 252, 253, 254, 255, 256, 257, 91, 92, 258, 259, 260, 261, 262, 263, 264, 265, 266, 267, 268, 269, 270, 271, 272, 273, 89, 274, 86, 87, 88, 284, 285, 286, 287, 288, 289, 290, 291, 292, 293, 294, 295, 296] (by decide +kernel) (by decide +kernel)) (goodIn_sub (fun _ h => List.mem_append_left _ (List.mem_append_left _ (List.mem_append_right _ h))) (by decide +kernel))
set_option maxRecDepth 20000 in
theorem gL_law_X4_end : GoodIn wsL_law (wsV RL 69 RX4 yX4_end wsX4_end) := goodIn_app (goodIn_of _ (by decide +kernel)) ggL_law_X4_end
set_option maxRecDepth 20000 in
theorem ggL_law_X4_inCore : GoodIn wsL_law wsX4_inCore := goodIn_ca (goodIn_r _ [278, 26, 22, 74, 75, 76, 2, 77, 78, 79, 69, 211, 178, 179, 21, 180, 40, 216, 217, 218, 219, 41, 195, 196, 197, 279, 189, 190, 284, 285, 286, 287, 288, 289, 290, 300, 301, 302, 303, 304, 297, 298, 299] (by decide +kernel) (by decide +kernel)) (goodIn_sub (fun _ h => List.mem_append_left _ (List.mem_append_right _ h)) (by decide +kernel))
set_option maxRecDepth 20000 in
theorem gL_law_X4_inCore : GoodIn wsL_law (wsV RL 72 RX4 yX4_inCore wsX4_inCore) := goodIn_app (goodIn_of _ (by decide +kernel)) ggL_law_X4_inCore
set_option maxRecDepth 20000 in
theorem ggL_law_X4_day : GoodIn wsL_law wsX4_day := goodIn_r _ [283, 97, 284, 285, 286, 287, 288, 289, 290] (by decide +kernel) (by decide +kernel)
set_option maxRecDepth 20000 in
theorem gL_law_X4_day : GoodIn wsL_law (wsV RL 76 RX4 yX4_day wsX4_day) := goodIn_app (goodIn_of _ (by decide +kernel)) ggL_law_X4_day
theorem dL_law_0 : decode cL_law 0 = .ok (.new 9, 3) := by decide +kernel
theorem dL_law_3 : decode cL_law 3 = .ok (.dup, 1) := by decide +kernel
theorem dL_law_4 : decode cL_law 4 = .ok (.invokespecial 11, 3) := by decide +kernel
theorem dL_law_7 : decode cL_law 7 = .ok (.astore_n 1, 1) := by decide +kernel
theorem dL_law_8 : decode cL_law 8 = .ok (.iconst 1, 1) := by decide +kernel
theorem dL_law_9 : decode cL_law 9 = .ok (.aload_n 0, 1) := by decide +kernel
theorem dL_law_10 : decode cL_law 10 = .ok (.iconst 0, 1) := by decide +kernel
theorem dL_law_11 : decode cL_law 11 = .ok (.invokestatic 12, 3) := by decide +kernel
theorem dL_law_14 : decode cL_law 14 = .ok (.iconst 4, 1) := by decide +kernel
theorem dL_law_15 : decode cL_law 15 = .ok (.invokestatic 18, 3) := by decide +kernel
theorem dL_law_18 : decode cL_law 18 = .ok (.iadd, 1) := by decide +kernel
theorem dL_law_19 : decode cL_law 19 = .ok (.istore_n 2, 1) := by decide +kernel
theorem dL_law_20 : decode cL_law 20 = .ok (.iconst 0, 1) := by decide +kernel
theorem dL_law_21 : decode cL_law 21 = .ok (.istore_n 3, 1) := by decide +kernel
theorem dL_law_22 : decode cL_law 22 = .ok (.iload_n 3, 1) := by decide +kernel
theorem dL_law_23 : decode cL_law 23 = .ok (.iload_n 2, 1) := by decide +kernel
theorem dL_law_24 : decode cL_law 24 = .ok (.if_icmp .ge 14, 3) := by decide +kernel
theorem dL_law_27 : decode cL_law 27 = .ok (.aload_n 1, 1) := by decide +kernel
theorem dL_law_28 : decode cL_law 28 = .ok (.invokevirtual 22, 3) := by decide +kernel
theorem dL_law_31 : decode cL_law 31 = .ok (.pop, 1) := by decide +kernel
theorem dL_law_32 : decode cL_law 32 = .ok (.iinc 3 1, 3) := by decide +kernel
theorem dL_law_35 : decode cL_law 35 = .ok (.goto (-13), 3) := by decide +kernel
theorem dL_law_38 : decode cL_law 38 = .ok (.iconst 0, 1) := by decide +kernel
theorem dL_law_39 : decode cL_law 39 = .ok (.istore_n 3, 1) := by decide +kernel
theorem dL_law_40 : decode cL_law 40 = .ok (.iconst (-1), 1) := by decide +kernel
theorem dL_law_41 : decode cL_law 41 = .ok (.istore 4, 2) := by decide +kernel
theorem dL_law_43 : decode cL_law 43 = .ok (.iconst 0, 1) := by decide +kernel
theorem dL_law_44 : decode cL_law 44 = .ok (.istore 5, 2) := by decide +kernel
theorem dL_law_46 : decode cL_law 46 = .ok (.iconst 0, 1) := by decide +kernel
theorem dL_law_47 : decode cL_law 47 = .ok (.istore 6, 2) := by decide +kernel
theorem dL_law_49 : decode cL_law 49 = .ok (.iload 6, 2) := by decide +kernel
theorem dL_law_51 : decode cL_law 51 = .ok (.bipush 18, 2) := by decide +kernel
theorem dL_law_53 : decode cL_law 53 = .ok (.if_icmp .ge 586, 3) := by decide +kernel
theorem dL_law_56 : decode cL_law 56 = .ok (.aload_n 0, 1) := by decide +kernel
theorem dL_law_57 : decode cL_law 57 = .ok (.iconst 1, 1) := by decide +kernel
theorem dL_law_58 : decode cL_law 58 = .ok (.iload 6, 2) := by decide +kernel
theorem dL_law_60 : decode cL_law 60 = .ok (.bipush 6, 2) := by decide +kernel
theorem dL_law_62 : decode cL_law 62 = .ok (.irem, 1) := by decide +kernel
theorem dL_law_63 : decode cL_law 63 = .ok (.iadd, 1) := by decide +kernel
theorem dL_law_64 : decode cL_law 64 = .ok (.invokestatic 12, 3) := by decide +kernel
theorem dL_law_67 : decode cL_law 67 = .ok (.iload 6, 2) := by decide +kernel
theorem dL_law_69 : decode cL_law 69 = .ok (.bipush 6, 2) := by decide +kernel
theorem dL_law_71 : decode cL_law 71 = .ok (.idiv, 1) := by decide +kernel
theorem dL_law_72 : decode cL_law 72 = .ok (.iconst 5, 1) := by decide +kernel
theorem dL_law_73 : decode cL_law 73 = .ok (.imul, 1) := by decide +kernel
theorem dL_law_74 : decode cL_law 74 = .ok (.ishr, 1) := by decide +kernel
theorem dL_law_75 : decode cL_law 75 = .ok (.iload 6, 2) := by decide +kernel
theorem dL_law_77 : decode cL_law 77 = .ok (.sipush 911, 3) := by decide +kernel
theorem dL_law_80 : decode cL_law 80 = .ok (.imul, 1) := by decide +kernel
theorem dL_law_81 : decode cL_law 81 = .ok (.ixor, 1) := by decide +kernel
theorem dL_law_82 : decode cL_law 82 = .ok (.istore 7, 2) := by decide +kernel
theorem dL_law_84 : decode cL_law 84 = .ok (.iconst 0, 1) := by decide +kernel
theorem dL_law_85 : decode cL_law 85 = .ok (.istore 8, 2) := by decide +kernel
theorem dL_law_87 : decode cL_law 87 = .ok (.iload 8, 2) := by decide +kernel
theorem dL_law_89 : decode cL_law 89 = .ok (.iload_n 2, 1) := by decide +kernel
theorem dL_law_90 : decode cL_law 90 = .ok (.if_icmp .ge 380, 3) := by decide +kernel
theorem dL_law_93 : decode cL_law 93 = .ok (.iload 7, 2) := by decide +kernel
theorem dL_law_95 : decode cL_law 95 = .ok (.iload 8, 2) := by decide +kernel
theorem dL_law_97 : decode cL_law 97 = .ok (.sipush 7919, 3) := by decide +kernel
theorem dL_law_100 : decode cL_law 100 = .ok (.imul, 1) := by decide +kernel
theorem dL_law_101 : decode cL_law 101 = .ok (.ixor, 1) := by decide +kernel
theorem dL_law_102 : decode cL_law 102 = .ok (.istore 9, 2) := by decide +kernel
theorem dL_law_104 : decode cL_law 104 = .ok (.iload 9, 2) := by decide +kernel
theorem dL_law_106 : decode cL_law 106 = .ok (.iconst 5, 1) := by decide +kernel
theorem dL_law_107 : decode cL_law 107 = .ok (.invokestatic 18, 3) := by decide +kernel
theorem dL_law_110 : decode cL_law 110 = .ok (.ifCond .le 61, 3) := by decide +kernel
theorem dL_law_113 : decode cL_law 113 = .ok (.aload_n 1, 1) := by decide +kernel
theorem dL_law_114 : decode cL_law 114 = .ok (.iload 8, 2) := by decide +kernel
theorem dL_law_116 : decode cL_law 116 = .ok (.iload 9, 2) := by decide +kernel
theorem dL_law_118 : decode cL_law 118 = .ok (.iconst 3, 1) := by decide +kernel
theorem dL_law_119 : decode cL_law 119 = .ok (.ishr, 1) := by decide +kernel
theorem dL_law_120 : decode cL_law 120 = .ok (.iconst 2, 1) := by decide +kernel
theorem dL_law_121 : decode cL_law 121 = .ok (.invokestatic 18, 3) := by decide +kernel
theorem dL_law_124 : decode cL_law 124 = .ok (.iload 9, 2) := by decide +kernel
theorem dL_law_126 : decode cL_law 126 = .ok (.iconst 4, 1) := by decide +kernel
theorem dL_law_127 : decode cL_law 127 = .ok (.ishr, 1) := by decide +kernel
theorem dL_law_128 : decode cL_law 128 = .ok (.sipush 151, 3) := by decide +kernel
theorem dL_law_131 : decode cL_law 131 = .ok (.invokestatic 18, 3) := by decide +kernel
theorem dL_law_134 : decode cL_law 134 = .ok (.imul, 1) := by decide +kernel
theorem dL_law_135 : decode cL_law 135 = .ok (.iload 9, 2) := by decide +kernel
theorem dL_law_137 : decode cL_law 137 = .ok (.bipush 7, 2) := by decide +kernel
theorem dL_law_139 : decode cL_law 139 = .ok (.ishr, 1) := by decide +kernel
theorem dL_law_140 : decode cL_law 140 = .ok (.bipush 121, 2) := by decide +kernel
theorem dL_law_142 : decode cL_law 142 = .ok (.invokestatic 18, 3) := by decide +kernel
theorem dL_law_145 : decode cL_law 145 = .ok (.iload 9, 2) := by decide +kernel
theorem dL_law_147 : decode cL_law 147 = .ok (.bipush 9, 2) := by decide +kernel
theorem dL_law_149 : decode cL_law 149 = .ok (.ishr, 1) := by decide +kernel
theorem dL_law_150 : decode cL_law 150 = .ok (.iconst 4, 1) := by decide +kernel
theorem dL_law_151 : decode cL_law 151 = .ok (.invokestatic 18, 3) := by decide +kernel
theorem dL_law_154 : decode cL_law 154 = .ok (.iload 9, 2) := by decide +kernel
theorem dL_law_156 : decode cL_law 156 = .ok (.bipush 11, 2) := by decide +kernel
theorem dL_law_158 : decode cL_law 158 = .ok (.ishr, 1) := by decide +kernel
theorem dL_law_159 : decode cL_law 159 = .ok (.bipush 46, 2) := by decide +kernel
theorem dL_law_161 : decode cL_law 161 = .ok (.invokestatic 18, 3) := by decide +kernel
theorem dL_law_164 : decode cL_law 164 = .ok (.bipush 30, 2) := by decide +kernel
theorem dL_law_166 : decode cL_law 166 = .ok (.isub, 1) := by decide +kernel
theorem dL_law_167 : decode cL_law 167 = .ok (.invokevirtual 26, 3) := by decide +kernel
theorem dL_law_170 : decode cL_law 170 = .ok (.pop, 1) := by decide +kernel
theorem dL_law_171 : decode cL_law 171 = .ok (.iload 9, 2) := by decide +kernel
theorem dL_law_173 : decode cL_law 173 = .ok (.iconst 5, 1) := by decide +kernel
theorem dL_law_174 : decode cL_law 174 = .ok (.ishr, 1) := by decide +kernel
theorem dL_law_175 : decode cL_law 175 = .ok (.iconst 3, 1) := by decide +kernel
theorem dL_law_176 : decode cL_law 176 = .ok (.invokestatic 18, 3) := by decide +kernel
theorem dL_law_179 : decode cL_law 179 = .ok (.ifCond .ne 31, 3) := by decide +kernel
theorem dL_law_182 : decode cL_law 182 = .ok (.aload_n 1, 1) := by decide +kernel
theorem dL_law_183 : decode cL_law 183 = .ok (.iload 8, 2) := by decide +kernel
theorem dL_law_185 : decode cL_law 185 = .ok (.iload 9, 2) := by decide +kernel
theorem dL_law_187 : decode cL_law 187 = .ok (.bipush 6, 2) := by decide +kernel
theorem dL_law_189 : decode cL_law 189 = .ok (.ishr, 1) := by decide +kernel
theorem dL_law_190 : decode cL_law 190 = .ok (.bipush 12, 2) := by decide +kernel
theorem dL_law_192 : decode cL_law 192 = .ok (.invokestatic 18, 3) := by decide +kernel
theorem dL_law_195 : decode cL_law 195 = .ok (.iconst 1, 1) := by decide +kernel
theorem dL_law_196 : decode cL_law 196 = .ok (.iload 9, 2) := by decide +kernel
theorem dL_law_198 : decode cL_law 198 = .ok (.bipush 8, 2) := by decide +kernel
theorem dL_law_200 : decode cL_law 200 = .ok (.ishr, 1) := by decide +kernel
theorem dL_law_201 : decode cL_law 201 = .ok (.iconst 5, 1) := by decide +kernel
theorem dL_law_202 : decode cL_law 202 = .ok (.invokestatic 18, 3) := by decide +kernel
theorem dL_law_205 : decode cL_law 205 = .ok (.iadd, 1) := by decide +kernel
theorem dL_law_206 : decode cL_law 206 = .ok (.invokevirtual 30, 3) := by decide +kernel
theorem dL_law_209 : decode cL_law 209 = .ok (.pop, 1) := by decide +kernel
theorem dL_law_210 : decode cL_law 210 = .ok (.aload_n 1, 1) := by decide +kernel
theorem dL_law_211 : decode cL_law 211 = .ok (.iload 8, 2) := by decide +kernel
theorem dL_law_213 : decode cL_law 213 = .ok (.invokevirtual 34, 3) := by decide +kernel
theorem dL_law_216 : decode cL_law 216 = .ok (.istore 10, 2) := by decide +kernel
theorem dL_law_218 : decode cL_law 218 = .ok (.aload_n 1, 1) := by decide +kernel
theorem dL_law_219 : decode cL_law 219 = .ok (.iload 8, 2) := by decide +kernel
theorem dL_law_221 : decode cL_law 221 = .ok (.invokevirtual 38, 3) := by decide +kernel
theorem dL_law_224 : decode cL_law 224 = .ok (.istore 11, 2) := by decide +kernel
theorem dL_law_226 : decode cL_law 226 = .ok (.iconst 0, 1) := by decide +kernel
theorem dL_law_227 : decode cL_law 227 = .ok (.istore 12, 2) := by decide +kernel
theorem dL_law_229 : decode cL_law 229 = .ok (.iconst 0, 1) := by decide +kernel
theorem dL_law_230 : decode cL_law 230 = .ok (.istore 13, 2) := by decide +kernel
theorem dL_law_232 : decode cL_law 232 = .ok (.iload 13, 2) := by decide +kernel
theorem dL_law_234 : decode cL_law 234 = .ok (.bipush 12, 2) := by decide +kernel
theorem dL_law_236 : decode cL_law 236 = .ok (.if_icmp .ge 208, 3) := by decide +kernel
theorem dL_law_239 : decode cL_law 239 = .ok (.iconst 0, 1) := by decide +kernel
theorem dL_law_240 : decode cL_law 240 = .ok (.istore 14, 2) := by decide +kernel
theorem dL_law_242 : decode cL_law 242 = .ok (.iload 14, 2) := by decide +kernel
theorem dL_law_244 : decode cL_law 244 = .ok (.iconst 5, 1) := by decide +kernel
theorem dL_law_245 : decode cL_law 245 = .ok (.if_icmp .ge 50, 3) := by decide +kernel
theorem dL_law_248 : decode cL_law 248 = .ok (.aload_n 1, 1) := by decide +kernel
theorem dL_law_249 : decode cL_law 249 = .ok (.iload 8, 2) := by decide +kernel
theorem dL_law_251 : decode cL_law 251 = .ok (.iload 13, 2) := by decide +kernel
theorem dL_law_253 : decode cL_law 253 = .ok (.iload 14, 2) := by decide +kernel
theorem dL_law_255 : decode cL_law 255 = .ok (.invokevirtual 41, 3) := by decide +kernel
theorem dL_law_258 : decode cL_law 258 = .ok (.ifCond .lt 29, 3) := by decide +kernel
theorem dL_law_261 : decode cL_law 261 = .ok (.aload_n 1, 1) := by decide +kernel
theorem dL_law_262 : decode cL_law 262 = .ok (.iload 8, 2) := by decide +kernel
theorem dL_law_264 : decode cL_law 264 = .ok (.iload 13, 2) := by decide +kernel
theorem dL_law_266 : decode cL_law 266 = .ok (.iload 14, 2) := by decide +kernel
theorem dL_law_268 : decode cL_law 268 = .ok (.invokevirtual 41, 3) := by decide +kernel
theorem dL_law_271 : decode cL_law 271 = .ok (.iload 14, 2) := by decide +kernel
theorem dL_law_273 : decode cL_law 273 = .ok (.iconst 4, 1) := by decide +kernel
theorem dL_law_274 : decode cL_law 274 = .ok (.if_icmp .ne 8, 3) := by decide +kernel
theorem dL_law_277 : decode cL_law 277 = .ok (.bipush 10, 2) := by decide +kernel
theorem dL_law_279 : decode cL_law 279 = .ok (.goto 5, 3) := by decide +kernel
theorem dL_law_282 : decode cL_law 282 = .ok (.bipush 100, 2) := by decide +kernel
theorem dL_law_284 : decode cL_law 284 = .ok (.if_icmp .le 5, 3) := by decide +kernel
theorem dL_law_287 : decode cL_law 287 = .ok (.iconst 0, 1) := by decide +kernel
theorem dL_law_288 : decode cL_law 288 = .ok (.ireturn, 1) := by decide +kernel
theorem dL_law_289 : decode cL_law 289 = .ok (.iinc 14 1, 3) := by decide +kernel
theorem dL_law_292 : decode cL_law 292 = .ok (.goto (-50), 3) := by decide +kernel
theorem dL_law_295 : decode cL_law 295 = .ok (.aload_n 1, 1) := by decide +kernel
theorem dL_law_296 : decode cL_law 296 = .ok (.iload 8, 2) := by decide +kernel
theorem dL_law_298 : decode cL_law 298 = .ok (.iload 13, 2) := by decide +kernel
theorem dL_law_300 : decode cL_law 300 = .ok (.iconst 1, 1) := by decide +kernel
theorem dL_law_301 : decode cL_law 301 = .ok (.invokevirtual 44, 3) := by decide +kernel
theorem dL_law_304 : decode cL_law 304 = .ok (.iload 10, 2) := by decide +kernel
theorem dL_law_306 : decode cL_law 306 = .ok (.if_icmp .lt 7, 3) := by decide +kernel
theorem dL_law_309 : decode cL_law 309 = .ok (.iconst 1, 1) := by decide +kernel
theorem dL_law_310 : decode cL_law 310 = .ok (.goto 4, 3) := by decide +kernel
theorem dL_law_313 : decode cL_law 313 = .ok (.iconst 0, 1) := by decide +kernel
theorem dL_law_314 : decode cL_law 314 = .ok (.istore 14, 2) := by decide +kernel
theorem dL_law_316 : decode cL_law 316 = .ok (.iload 11, 2) := by decide +kernel
theorem dL_law_318 : decode cL_law 318 = .ok (.iload 13, 2) := by decide +kernel
theorem dL_law_320 : decode cL_law 320 = .ok (.ishr, 1) := by decide +kernel
theorem dL_law_321 : decode cL_law 321 = .ok (.iconst 1, 1) := by decide +kernel
theorem dL_law_322 : decode cL_law 322 = .ok (.iand, 1) := by decide +kernel
theorem dL_law_323 : decode cL_law 323 = .ok (.iconst 1, 1) := by decide +kernel
theorem dL_law_324 : decode cL_law 324 = .ok (.if_icmp .ne 7, 3) := by decide +kernel
theorem dL_law_327 : decode cL_law 327 = .ok (.iconst 1, 1) := by decide +kernel
theorem dL_law_328 : decode cL_law 328 = .ok (.goto 4, 3) := by decide +kernel
theorem dL_law_331 : decode cL_law 331 = .ok (.iconst 0, 1) := by decide +kernel
theorem dL_law_332 : decode cL_law 332 = .ok (.iload 14, 2) := by decide +kernel
theorem dL_law_334 : decode cL_law 334 = .ok (.if_icmp .ne 17, 3) := by decide +kernel
theorem dL_law_337 : decode cL_law 337 = .ok (.aload_n 1, 1) := by decide +kernel
theorem dL_law_338 : decode cL_law 338 = .ok (.iload 8, 2) := by decide +kernel
theorem dL_law_340 : decode cL_law 340 = .ok (.iload 13, 2) := by decide +kernel
theorem dL_law_342 : decode cL_law 342 = .ok (.iconst 0, 1) := by decide +kernel
theorem dL_law_343 : decode cL_law 343 = .ok (.invokevirtual 44, 3) := by decide +kernel
theorem dL_law_346 : decode cL_law 346 = .ok (.bipush 125, 2) := by decide +kernel
theorem dL_law_348 : decode cL_law 348 = .ok (.if_icmp .le 5, 3) := by decide +kernel
theorem dL_law_351 : decode cL_law 351 = .ok (.iconst 0, 1) := by decide +kernel
theorem dL_law_352 : decode cL_law 352 = .ok (.ireturn, 1) := by decide +kernel
theorem dL_law_353 : decode cL_law 353 = .ok (.iload 12, 2) := by decide +kernel
theorem dL_law_355 : decode cL_law 355 = .ok (.iload 14, 2) := by decide +kernel
theorem dL_law_357 : decode cL_law 357 = .ok (.ifCond .eq 7, 3) := by decide +kernel
theorem dL_law_360 : decode cL_law 360 = .ok (.iconst 1, 1) := by decide +kernel
theorem dL_law_361 : decode cL_law 361 = .ok (.goto 4, 3) := by decide +kernel
theorem dL_law_364 : decode cL_law 364 = .ok (.iconst 0, 1) := by decide +kernel
theorem dL_law_365 : decode cL_law 365 = .ok (.iadd, 1) := by decide +kernel
theorem dL_law_366 : decode cL_law 366 = .ok (.istore 12, 2) := by decide +kernel
theorem dL_law_368 : decode cL_law 368 = .ok (.iconst 0, 1) := by decide +kernel
theorem dL_law_369 : decode cL_law 369 = .ok (.istore 15, 2) := by decide +kernel
theorem dL_law_371 : decode cL_law 371 = .ok (.iconst 0, 1) := by decide +kernel
theorem dL_law_372 : decode cL_law 372 = .ok (.istore 16, 2) := by decide +kernel
theorem dL_law_374 : decode cL_law 374 = .ok (.iload 16, 2) := by decide +kernel
theorem dL_law_376 : decode cL_law 376 = .ok (.iconst 4, 1) := by decide +kernel
theorem dL_law_377 : decode cL_law 377 = .ok (.if_icmp .ge 26, 3) := by decide +kernel
theorem dL_law_380 : decode cL_law 380 = .ok (.iload 15, 2) := by decide +kernel
theorem dL_law_382 : decode cL_law 382 = .ok (.aload_n 1, 1) := by decide +kernel
theorem dL_law_383 : decode cL_law 383 = .ok (.iload 8, 2) := by decide +kernel
theorem dL_law_385 : decode cL_law 385 = .ok (.iload 13, 2) := by decide +kernel
theorem dL_law_387 : decode cL_law 387 = .ok (.iload 16, 2) := by decide +kernel
theorem dL_law_389 : decode cL_law 389 = .ok (.invokevirtual 48, 3) := by decide +kernel
theorem dL_law_392 : decode cL_law 392 = .ok (.invokestatic 51, 3) := by decide +kernel
theorem dL_law_395 : decode cL_law 395 = .ok (.istore 15, 2) := by decide +kernel
theorem dL_law_397 : decode cL_law 397 = .ok (.iinc 16 1, 3) := by decide +kernel
theorem dL_law_400 : decode cL_law 400 = .ok (.goto (-26), 3) := by decide +kernel
theorem dL_law_403 : decode cL_law 403 = .ok (.aload_n 1, 1) := by decide +kernel
theorem dL_law_404 : decode cL_law 404 = .ok (.iload 8, 2) := by decide +kernel
theorem dL_law_406 : decode cL_law 406 = .ok (.iload 13, 2) := by decide +kernel
theorem dL_law_408 : decode cL_law 408 = .ok (.iconst 0, 1) := by decide +kernel
theorem dL_law_409 : decode cL_law 409 = .ok (.invokevirtual 44, 3) := by decide +kernel
theorem dL_law_412 : decode cL_law 412 = .ok (.iload 15, 2) := by decide +kernel
theorem dL_law_414 : decode cL_law 414 = .ok (.if_icmp .lt 22, 3) := by decide +kernel
theorem dL_law_417 : decode cL_law 417 = .ok (.aload_n 1, 1) := by decide +kernel
theorem dL_law_418 : decode cL_law 418 = .ok (.iload 8, 2) := by decide +kernel
theorem dL_law_420 : decode cL_law 420 = .ok (.iload 13, 2) := by decide +kernel
theorem dL_law_422 : decode cL_law 422 = .ok (.iconst 0, 1) := by decide +kernel
theorem dL_law_423 : decode cL_law 423 = .ok (.invokevirtual 44, 3) := by decide +kernel
theorem dL_law_426 : decode cL_law 426 = .ok (.iload 15, 2) := by decide +kernel
theorem dL_law_428 : decode cL_law 428 = .ok (.iload 15, 2) := by decide +kernel
theorem dL_law_430 : decode cL_law 430 = .ok (.iconst 4, 1) := by decide +kernel
theorem dL_law_431 : decode cL_law 431 = .ok (.idiv, 1) := by decide +kernel
theorem dL_law_432 : decode cL_law 432 = .ok (.iadd, 1) := by decide +kernel
theorem dL_law_433 : decode cL_law 433 = .ok (.if_icmp .le 5, 3) := by decide +kernel
theorem dL_law_436 : decode cL_law 436 = .ok (.iconst 0, 1) := by decide +kernel
theorem dL_law_437 : decode cL_law 437 = .ok (.ireturn, 1) := by decide +kernel
theorem dL_law_438 : decode cL_law 438 = .ok (.iinc 13 1, 3) := by decide +kernel
theorem dL_law_441 : decode cL_law 441 = .ok (.goto (-209), 3) := by decide +kernel
theorem dL_law_444 : decode cL_law 444 = .ok (.iload 12, 2) := by decide +kernel
theorem dL_law_446 : decode cL_law 446 = .ok (.iconst 2, 1) := by decide +kernel
theorem dL_law_447 : decode cL_law 447 = .ok (.if_icmp .lt 15, 3) := by decide +kernel
theorem dL_law_450 : decode cL_law 450 = .ok (.iload 10, 2) := by decide +kernel
theorem dL_law_452 : decode cL_law 452 = .ok (.iconst 1, 1) := by decide +kernel
theorem dL_law_453 : decode cL_law 453 = .ok (.if_icmp .lt 9, 3) := by decide +kernel
theorem dL_law_456 : decode cL_law 456 = .ok (.iload 10, 2) := by decide +kernel
theorem dL_law_458 : decode cL_law 458 = .ok (.iconst 5, 1) := by decide +kernel
theorem dL_law_459 : decode cL_law 459 = .ok (.if_icmp .le 5, 3) := by decide +kernel
theorem dL_law_462 : decode cL_law 462 = .ok (.iconst 0, 1) := by decide +kernel
theorem dL_law_463 : decode cL_law 463 = .ok (.ireturn, 1) := by decide +kernel
theorem dL_law_464 : decode cL_law 464 = .ok (.iinc 8 1, 3) := by decide +kernel
theorem dL_law_467 : decode cL_law 467 = .ok (.goto (-380), 3) := by decide +kernel
theorem dL_law_470 : decode cL_law 470 = .ok (.iload 7, 2) := by decide +kernel
theorem dL_law_472 : decode cL_law 472 = .ok (.iconst 2, 1) := by decide +kernel
theorem dL_law_473 : decode cL_law 473 = .ok (.ishr, 1) := by decide +kernel
theorem dL_law_474 : decode cL_law 474 = .ok (.iconst 2, 1) := by decide +kernel
theorem dL_law_475 : decode cL_law 475 = .ok (.invokestatic 18, 3) := by decide +kernel
theorem dL_law_478 : decode cL_law 478 = .ok (.ifCond .ne 83, 3) := by decide +kernel
theorem dL_law_481 : decode cL_law 481 = .ok (.iconst 0, 1) := by decide +kernel
theorem dL_law_482 : decode cL_law 482 = .ok (.istore 8, 2) := by decide +kernel
theorem dL_law_484 : decode cL_law 484 = .ok (.iconst 0, 1) := by decide +kernel
theorem dL_law_485 : decode cL_law 485 = .ok (.istore 9, 2) := by decide +kernel
theorem dL_law_487 : decode cL_law 487 = .ok (.iload 9, 2) := by decide +kernel
theorem dL_law_489 : decode cL_law 489 = .ok (.iload_n 2, 1) := by decide +kernel
theorem dL_law_490 : decode cL_law 490 = .ok (.if_icmp .ge 22, 3) := by decide +kernel
theorem dL_law_493 : decode cL_law 493 = .ok (.iload 8, 2) := by decide +kernel
theorem dL_law_495 : decode cL_law 495 = .ok (.aload_n 1, 1) := by decide +kernel
theorem dL_law_496 : decode cL_law 496 = .ok (.iload 9, 2) := by decide +kernel
theorem dL_law_498 : decode cL_law 498 = .ok (.invokevirtual 34, 3) := by decide +kernel
theorem dL_law_501 : decode cL_law 501 = .ok (.invokestatic 51, 3) := by decide +kernel
theorem dL_law_504 : decode cL_law 504 = .ok (.istore 8, 2) := by decide +kernel
theorem dL_law_506 : decode cL_law 506 = .ok (.iinc 9 1, 3) := by decide +kernel
theorem dL_law_509 : decode cL_law 509 = .ok (.goto (-22), 3) := by decide +kernel
theorem dL_law_512 : decode cL_law 512 = .ok (.aload_n 1, 1) := by decide +kernel
theorem dL_law_513 : decode cL_law 513 = .ok (.invokevirtual 56, 3) := by decide +kernel
theorem dL_law_516 : decode cL_law 516 = .ok (.iload 8, 2) := by decide +kernel
theorem dL_law_518 : decode cL_law 518 = .ok (.if_icmp .eq 5, 3) := by decide +kernel
theorem dL_law_521 : decode cL_law 521 = .ok (.iconst 0, 1) := by decide +kernel
theorem dL_law_522 : decode cL_law 522 = .ok (.ireturn, 1) := by decide +kernel
theorem dL_law_523 : decode cL_law 523 = .ok (.iload_n 3, 1) := by decide +kernel
theorem dL_law_524 : decode cL_law 524 = .ok (.iload_n 2, 1) := by decide +kernel
theorem dL_law_525 : decode cL_law 525 = .ok (.iadd, 1) := by decide +kernel
theorem dL_law_526 : decode cL_law 526 = .ok (.istore_n 3, 1) := by decide +kernel
theorem dL_law_527 : decode cL_law 527 = .ok (.iload 4, 2) := by decide +kernel
theorem dL_law_529 : decode cL_law 529 = .ok (.ifCond .ge 32, 3) := by decide +kernel
theorem dL_law_532 : decode cL_law 532 = .ok (.iload 6, 2) := by decide +kernel
theorem dL_law_534 : decode cL_law 534 = .ok (.istore 4, 2) := by decide +kernel
theorem dL_law_536 : decode cL_law 536 = .ok (.ldc 59, 2) := by decide +kernel
theorem dL_law_538 : decode cL_law 538 = .ok (.aload_n 1, 1) := by decide +kernel
theorem dL_law_539 : decode cL_law 539 = .ok (.iconst 0, 1) := by decide +kernel
theorem dL_law_540 : decode cL_law 540 = .ok (.invokevirtual 34, 3) := by decide +kernel
theorem dL_law_543 : decode cL_law 543 = .ok (.imul, 1) := by decide +kernel
theorem dL_law_544 : decode cL_law 544 = .ok (.bipush 10, 2) := by decide +kernel
theorem dL_law_546 : decode cL_law 546 = .ok (.aload_n 1, 1) := by decide +kernel
theorem dL_law_547 : decode cL_law 547 = .ok (.iconst 0, 1) := by decide +kernel
theorem dL_law_548 : decode cL_law 548 = .ok (.invokevirtual 38, 3) := by decide +kernel
theorem dL_law_551 : decode cL_law 551 = .ok (.imul, 1) := by decide +kernel
theorem dL_law_552 : decode cL_law 552 = .ok (.iadd, 1) := by decide +kernel
theorem dL_law_553 : decode cL_law 553 = .ok (.aload_n 1, 1) := by decide +kernel
theorem dL_law_554 : decode cL_law 554 = .ok (.iconst 0, 1) := by decide +kernel
theorem dL_law_555 : decode cL_law 555 = .ok (.invokevirtual 60, 3) := by decide +kernel
theorem dL_law_558 : decode cL_law 558 = .ok (.iadd, 1) := by decide +kernel
theorem dL_law_559 : decode cL_law 559 = .ok (.istore 5, 2) := by decide +kernel
theorem dL_law_561 : decode cL_law 561 = .ok (.aload_n 1, 1) := by decide +kernel
theorem dL_law_562 : decode cL_law 562 = .ok (.iconst (-1), 1) := by decide +kernel
theorem dL_law_563 : decode cL_law 563 = .ok (.invokevirtual 63, 3) := by decide +kernel
theorem dL_law_566 : decode cL_law 566 = .ok (.aload_n 1, 1) := by decide +kernel
theorem dL_law_567 : decode cL_law 567 = .ok (.iconst 0, 1) := by decide +kernel
theorem dL_law_568 : decode cL_law 568 = .ok (.invokevirtual 63, 3) := by decide +kernel
theorem dL_law_571 : decode cL_law 571 = .ok (.iadd, 1) := by decide +kernel
theorem dL_law_572 : decode cL_law 572 = .ok (.aload_n 1, 1) := by decide +kernel
theorem dL_law_573 : decode cL_law 573 = .ok (.iconst 1, 1) := by decide +kernel
theorem dL_law_574 : decode cL_law 574 = .ok (.invokevirtual 63, 3) := by decide +kernel
theorem dL_law_577 : decode cL_law 577 = .ok (.iadd, 1) := by decide +kernel
theorem dL_law_578 : decode cL_law 578 = .ok (.iload_n 3, 1) := by decide +kernel
theorem dL_law_579 : decode cL_law 579 = .ok (.if_icmp .eq 5, 3) := by decide +kernel
theorem dL_law_582 : decode cL_law 582 = .ok (.iconst 0, 1) := by decide +kernel
theorem dL_law_583 : decode cL_law 583 = .ok (.ireturn, 1) := by decide +kernel
theorem dL_law_584 : decode cL_law 584 = .ok (.iload 4, 2) := by decide +kernel
theorem dL_law_586 : decode cL_law 586 = .ok (.ifCond .lt 42, 3) := by decide +kernel
theorem dL_law_589 : decode cL_law 589 = .ok (.ldc 59, 2) := by decide +kernel
theorem dL_law_591 : decode cL_law 591 = .ok (.aload_n 1, 1) := by decide +kernel
theorem dL_law_592 : decode cL_law 592 = .ok (.iload 4, 2) := by decide +kernel
theorem dL_law_594 : decode cL_law 594 = .ok (.iconst 0, 1) := by decide +kernel
theorem dL_law_595 : decode cL_law 595 = .ok (.iconst 0, 1) := by decide +kernel
theorem dL_law_596 : decode cL_law 596 = .ok (.invokevirtual 66, 3) := by decide +kernel
theorem dL_law_599 : decode cL_law 599 = .ok (.imul, 1) := by decide +kernel
theorem dL_law_600 : decode cL_law 600 = .ok (.bipush 10, 2) := by decide +kernel
theorem dL_law_602 : decode cL_law 602 = .ok (.aload_n 1, 1) := by decide +kernel
theorem dL_law_603 : decode cL_law 603 = .ok (.iload 4, 2) := by decide +kernel
theorem dL_law_605 : decode cL_law 605 = .ok (.iconst 0, 1) := by decide +kernel
theorem dL_law_606 : decode cL_law 606 = .ok (.iconst 1, 1) := by decide +kernel
theorem dL_law_607 : decode cL_law 607 = .ok (.invokevirtual 66, 3) := by decide +kernel
theorem dL_law_610 : decode cL_law 610 = .ok (.imul, 1) := by decide +kernel
theorem dL_law_611 : decode cL_law 611 = .ok (.iadd, 1) := by decide +kernel
theorem dL_law_612 : decode cL_law 612 = .ok (.aload_n 1, 1) := by decide +kernel
theorem dL_law_613 : decode cL_law 613 = .ok (.iload 4, 2) := by decide +kernel
theorem dL_law_615 : decode cL_law 615 = .ok (.iconst 0, 1) := by decide +kernel
theorem dL_law_616 : decode cL_law 616 = .ok (.iconst 2, 1) := by decide +kernel
theorem dL_law_617 : decode cL_law 617 = .ok (.invokevirtual 66, 3) := by decide +kernel
theorem dL_law_620 : decode cL_law 620 = .ok (.iadd, 1) := by decide +kernel
theorem dL_law_621 : decode cL_law 621 = .ok (.iload 5, 2) := by decide +kernel
theorem dL_law_623 : decode cL_law 623 = .ok (.if_icmp .eq 5, 3) := by decide +kernel
theorem dL_law_626 : decode cL_law 626 = .ok (.iconst 0, 1) := by decide +kernel
theorem dL_law_627 : decode cL_law 627 = .ok (.ireturn, 1) := by decide +kernel
theorem dL_law_628 : decode cL_law 628 = .ok (.aload_n 1, 1) := by decide +kernel
theorem dL_law_629 : decode cL_law 629 = .ok (.invokevirtual 69, 3) := by decide +kernel
theorem dL_law_632 : decode cL_law 632 = .ok (.pop, 1) := by decide +kernel
theorem dL_law_633 : decode cL_law 633 = .ok (.iinc 6 1, 3) := by decide +kernel
theorem dL_law_636 : decode cL_law 636 = .ok (.goto (-587), 3) := by decide +kernel
theorem dL_law_639 : decode cL_law 639 = .ok (.iconst 0, 1) := by decide +kernel
theorem dL_law_640 : decode cL_law 640 = .ok (.istore 6, 2) := by decide +kernel
theorem dL_law_642 : decode cL_law 642 = .ok (.iload 6, 2) := by decide +kernel
theorem dL_law_644 : decode cL_law 644 = .ok (.iload_n 2, 1) := by decide +kernel
theorem dL_law_645 : decode cL_law 645 = .ok (.if_icmp .ge 33, 3) := by decide +kernel
theorem dL_law_648 : decode cL_law 648 = .ok (.aload_n 1, 1) := by decide +kernel
theorem dL_law_649 : decode cL_law 649 = .ok (.iload 6, 2) := by decide +kernel
theorem dL_law_651 : decode cL_law 651 = .ok (.invokevirtual 72, 3) := by decide +kernel
theorem dL_law_654 : decode cL_law 654 = .ok (.dconst 0, 1) := by decide +kernel
theorem dL_law_655 : decode cL_law 655 = .ok (.dcmp .g, 1) := by decide +kernel
theorem dL_law_656 : decode cL_law 656 = .ok (.ifCond .lt 14, 3) := by decide +kernel
theorem dL_law_659 : decode cL_law 659 = .ok (.aload_n 1, 1) := by decide +kernel
theorem dL_law_660 : decode cL_law 660 = .ok (.iload 6, 2) := by decide +kernel
theorem dL_law_662 : decode cL_law 662 = .ok (.invokevirtual 72, 3) := by decide +kernel
theorem dL_law_665 : decode cL_law 665 = .ok (.dconst 1, 1) := by decide +kernel
theorem dL_law_666 : decode cL_law 666 = .ok (.dcmp .l, 1) := by decide +kernel
theorem dL_law_667 : decode cL_law 667 = .ok (.ifCond .le 5, 3) := by decide +kernel
theorem dL_law_670 : decode cL_law 670 = .ok (.iconst 0, 1) := by decide +kernel
theorem dL_law_671 : decode cL_law 671 = .ok (.ireturn, 1) := by decide +kernel
theorem dL_law_672 : decode cL_law 672 = .ok (.iinc 6 1, 3) := by decide +kernel
theorem dL_law_675 : decode cL_law 675 = .ok (.goto (-33), 3) := by decide +kernel
theorem dL_law_678 : decode cL_law 678 = .ok (.aload_n 1, 1) := by decide +kernel
theorem dL_law_679 : decode cL_law 679 = .ok (.invokevirtual 76, 3) := by decide +kernel
theorem dL_law_682 : decode cL_law 682 = .ok (.bipush 18, 2) := by decide +kernel
theorem dL_law_684 : decode cL_law 684 = .ok (.if_icmp .ne 7, 3) := by decide +kernel
theorem dL_law_687 : decode cL_law 687 = .ok (.iconst 1, 1) := by decide +kernel
theorem dL_law_688 : decode cL_law 688 = .ok (.goto 4, 3) := by decide +kernel
theorem dL_law_691 : decode cL_law 691 = .ok (.iconst 0, 1) := by decide +kernel
theorem dL_law_692 : decode cL_law 692 = .ok (.ireturn, 1) := by decide +kernel
