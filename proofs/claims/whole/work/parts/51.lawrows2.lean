set_option maxRecDepth 20000 in
theorem ggL_law_X4_grade : GoodIn wsL_law wsX4_grade := goodIn_ca (goodIn_ca (goodIn_r _ [137, 16, 138, 139, 140, 141, 15, 142, 124, 117, 118, 2, 119, 533, 534, 535, 536, 561, 562, 563, 564, 565] rfl (by decide +kernel)) (goodIn_sub (fun _ h => List.mem_append_left _ (List.mem_append_left _ (List.mem_append_left _ (List.mem_append_right _ h)))) (by decide +kernel))) (goodIn_sub (fun _ h => List.mem_append_left _ (List.mem_append_left _ (List.mem_append_right _ h))) (by decide +kernel))
set_option maxRecDepth 20000 in
theorem gL_law_X4_grade : GoodIn wsL_law (wsV RL 31 RX4 yX4_grade wsX4_grade) := goodIn_app (goodIn_of _ (by decide +kernel)) ggL_law_X4_grade
set_option maxRecDepth 20000 in
theorem ggL_law_X5_grade : GoodIn wsL_law wsX5_grade := goodIn_ca (goodIn_ca (goodIn_r _ [146, 130, 88, 147, 148, 149, 5, 150, 108, 131, 132, 133, 537, 538, 539, 540, 541, 542, 543, 544, 545, 546, 547, 548, 549, 550, 551, 552, 553, 554, 555, 556, 557, 558, 559, 560] rfl (by decide +kernel)) (goodIn_sub (fun _ h => List.mem_append_left _ (List.mem_append_left _ (List.mem_append_left _ (List.mem_append_right _ h)))) (by decide +kernel))) (goodIn_sub (fun _ h => List.mem_append_left _ (List.mem_append_left _ (List.mem_append_right _ h))) (by decide +kernel))
set_option maxRecDepth 20000 in
theorem gL_law_X5_grade : GoodIn wsL_law (wsV RL 34 RX5 yX5_grade wsX5_grade) := goodIn_app (goodIn_of _ (by decide +kernel)) ggL_law_X5_grade
set_option maxRecDepth 20000 in
theorem ggL_law_X4_feature : GoodIn wsL_law wsX4_feature := goodIn_ca (goodIn_ca (goodIn_r _ [154, 16, 155, 156, 157, 158, 15, 159, 160, 140, 141, 142, 124, 161, 162, 2, 163, 164, 165, 166, 167, 32, 533, 534, 535, 536, 561, 562, 563, 564, 565] rfl (by decide +kernel)) (goodIn_sub (fun _ h => List.mem_append_left _ (List.mem_append_left _ (List.mem_append_left _ (List.mem_append_right _ h)))) (by decide +kernel))) (goodIn_sub (fun _ h => List.mem_append_left _ (List.mem_append_left _ (List.mem_append_right _ h))) (by decide +kernel))
set_option maxRecDepth 20000 in
theorem gL_law_X4_feature : GoodIn wsL_law (wsV RL 35 RX4 yX4_feature wsX4_feature) := goodIn_app (goodIn_of _ (by decide +kernel)) ggL_law_X4_feature
set_option maxRecDepth 20000 in
theorem ggL_law_X5_feature : GoodIn wsL_law wsX5_feature := goodIn_ca (goodIn_ca (goodIn_r _ [171, 130, 91, 89, 172, 173, 174, 5, 175, 147, 148, 149, 150, 108, 131, 132, 133, 176, 177, 178, 537, 538, 539, 540, 541, 542, 543, 544, 545, 546, 547, 548, 549, 550, 551, 552, 553, 554, 555, 556, 557, 558, 559, 560] rfl (by decide +kernel)) (goodIn_sub (fun _ h => List.mem_append_left _ (List.mem_append_left _ (List.mem_append_left _ (List.mem_append_right _ h)))) (by decide +kernel))) (goodIn_sub (fun _ h => List.mem_append_left _ (List.mem_append_left _ (List.mem_append_right _ h))) (by decide +kernel))
set_option maxRecDepth 20000 in
theorem gL_law_X5_feature : GoodIn wsL_law (wsV RL 39 RX5 yX5_feature wsX5_feature) := goodIn_app (goodIn_of _ (by decide +kernel)) ggL_law_X5_feature
set_option maxRecDepth 20000 in
theorem ggL_law_X4_miss : GoodIn wsL_law wsX4_miss := goodIn_ca (goodIn_ca (goodIn_r _ [182, 16, 155, 156, 157, 158, 15, 159, 160, 140, 141, 142, 124, 161, 162, 2, 163, 164, 165, 166, 167, 32, 533, 534, 535, 536, 561, 562, 563, 564, 565] rfl (by decide +kernel)) (goodIn_sub (fun _ h => List.mem_append_left _ (List.mem_append_left _ (List.mem_append_left _ (List.mem_append_right _ h)))) (by decide +kernel))) (goodIn_sub (fun _ h => List.mem_append_left _ (List.mem_append_left _ (List.mem_append_right _ h))) (by decide +kernel))
set_option maxRecDepth 20000 in
theorem gL_law_X4_miss : GoodIn wsL_law (wsV RL 40 RX4 yX4_miss wsX4_miss) := goodIn_app (goodIn_of _ (by decide +kernel)) ggL_law_X4_miss
set_option maxRecDepth 20000 in
theorem ggL_law_X5_miss : GoodIn wsL_law wsX5_miss := goodIn_ca (goodIn_ca (goodIn_r _ [186, 130, 91, 172, 173, 174, 5, 175, 147, 148, 149, 150, 108, 131, 132, 133, 176, 177, 178, 537, 538, 539, 540, 541, 542, 543, 544, 545, 546, 547, 548, 549, 550, 551, 552, 553, 554, 555, 556, 557, 558, 559, 560] rfl (by decide +kernel)) (goodIn_sub (fun _ h => List.mem_append_left _ (List.mem_append_left _ (List.mem_append_left _ (List.mem_append_right _ h)))) (by decide +kernel))) (goodIn_sub (fun _ h => List.mem_append_left _ (List.mem_append_left _ (List.mem_append_right _ h))) (by decide +kernel))
set_option maxRecDepth 20000 in
theorem gL_law_X5_miss : GoodIn wsL_law (wsV RL 43 RX5 yX5_miss wsX5_miss) := goodIn_app (goodIn_of _ (by decide +kernel)) ggL_law_X5_miss
