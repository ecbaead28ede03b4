set_option maxRecDepth 20000 in
theorem ggL_law_X4_grade : GoodIn wsL_law wsX4_grade := goodIn_ca (goodIn_ca (goodIn_r _ [136, 16, 137, 138, 139, 140, 15, 141, 123, 116, 117, 2, 118, 530, 531, 532, 533, 558, 559, 560, 561, 562] rfl (by decide +kernel)) (goodIn_sub (fun _ h => List.mem_append_left _ (List.mem_append_left _ (List.mem_append_left _ (List.mem_append_right _ h)))) (by decide +kernel))) (goodIn_sub (fun _ h => List.mem_append_left _ (List.mem_append_left _ (List.mem_append_right _ h))) (by decide +kernel))
set_option maxRecDepth 20000 in
theorem gL_law_X4_grade : GoodIn wsL_law (wsV RL 31 RX4 yX4_grade wsX4_grade) := goodIn_app (goodIn_of _ (by decide +kernel)) ggL_law_X4_grade
set_option maxRecDepth 20000 in
theorem ggL_law_X5_grade : GoodIn wsL_law wsX5_grade := goodIn_ca (goodIn_ca (goodIn_r _ [145, 129, 87, 146, 147, 148, 5, 149, 107, 130, 131, 132, 534, 535, 536, 537, 538, 539, 540, 541, 542, 543, 544, 545, 546, 547, 548, 549, 550, 551, 552, 553, 554, 555, 556, 557] rfl (by decide +kernel)) (goodIn_sub (fun _ h => List.mem_append_left _ (List.mem_append_left _ (List.mem_append_left _ (List.mem_append_right _ h)))) (by decide +kernel))) (goodIn_sub (fun _ h => List.mem_append_left _ (List.mem_append_left _ (List.mem_append_right _ h))) (by decide +kernel))
set_option maxRecDepth 20000 in
theorem gL_law_X5_grade : GoodIn wsL_law (wsV RL 34 RX5 yX5_grade wsX5_grade) := goodIn_app (goodIn_of _ (by decide +kernel)) ggL_law_X5_grade
set_option maxRecDepth 20000 in
theorem ggL_law_X4_feature : GoodIn wsL_law wsX4_feature := goodIn_ca (goodIn_ca (goodIn_r _ [153, 16, 154, 155, 156, 15, 157, 158, 139, 140, 141, 123, 159, 160, 2, 161, 162, 163, 164, 165, 32, 530, 531, 532, 533, 558, 559, 560, 561, 562] rfl (by decide +kernel)) (goodIn_sub (fun _ h => List.mem_append_left _ (List.mem_append_left _ (List.mem_append_left _ (List.mem_append_right _ h)))) (by decide +kernel))) (goodIn_sub (fun _ h => List.mem_append_left _ (List.mem_append_left _ (List.mem_append_right _ h))) (by decide +kernel))
set_option maxRecDepth 20000 in
theorem gL_law_X4_feature : GoodIn wsL_law (wsV RL 35 RX4 yX4_feature wsX4_feature) := goodIn_app (goodIn_of _ (by decide +kernel)) ggL_law_X4_feature
set_option maxRecDepth 20000 in
theorem ggL_law_X5_feature : GoodIn wsL_law wsX5_feature := goodIn_ca (goodIn_ca (goodIn_r _ [169, 129, 90, 88, 170, 171, 172, 5, 173, 146, 147, 148, 149, 107, 130, 131, 132, 174, 175, 176, 534, 535, 536, 537, 538, 539, 540, 541, 542, 543, 544, 545, 546, 547, 548, 549, 550, 551, 552, 553, 554, 555, 556, 557] rfl (by decide +kernel)) (goodIn_sub (fun _ h => List.mem_append_left _ (List.mem_append_left _ (List.mem_append_left _ (List.mem_append_right _ h)))) (by decide +kernel))) (goodIn_sub (fun _ h => List.mem_append_left _ (List.mem_append_left _ (List.mem_append_right _ h))) (by decide +kernel))
set_option maxRecDepth 20000 in
theorem gL_law_X5_feature : GoodIn wsL_law (wsV RL 39 RX5 yX5_feature wsX5_feature) := goodIn_app (goodIn_of _ (by decide +kernel)) ggL_law_X5_feature
set_option maxRecDepth 20000 in
theorem ggL_law_X4_miss : GoodIn wsL_law wsX4_miss := goodIn_ca (goodIn_ca (goodIn_r _ [180, 16, 154, 155, 156, 15, 157, 158, 139, 140, 141, 123, 159, 160, 2, 161, 162, 163, 164, 165, 32, 530, 531, 532, 533, 558, 559, 560, 561, 562] rfl (by decide +kernel)) (goodIn_sub (fun _ h => List.mem_append_left _ (List.mem_append_left _ (List.mem_append_left _ (List.mem_append_right _ h)))) (by decide +kernel))) (goodIn_sub (fun _ h => List.mem_append_left _ (List.mem_append_left _ (List.mem_append_right _ h))) (by decide +kernel))
set_option maxRecDepth 20000 in
theorem gL_law_X4_miss : GoodIn wsL_law (wsV RL 40 RX4 yX4_miss wsX4_miss) := goodIn_app (goodIn_of _ (by decide +kernel)) ggL_law_X4_miss
set_option maxRecDepth 20000 in
theorem ggL_law_X5_miss : GoodIn wsL_law wsX5_miss := goodIn_ca (goodIn_ca (goodIn_r _ [184, 129, 90, 170, 171, 172, 5, 173, 146, 147, 148, 149, 107, 130, 131, 132, 174, 175, 176, 534, 535, 536, 537, 538, 539, 540, 541, 542, 543, 544, 545, 546, 547, 548, 549, 550, 551, 552, 553, 554, 555, 556, 557] rfl (by decide +kernel)) (goodIn_sub (fun _ h => List.mem_append_left _ (List.mem_append_left _ (List.mem_append_left _ (List.mem_append_right _ h)))) (by decide +kernel))) (goodIn_sub (fun _ h => List.mem_append_left _ (List.mem_append_left _ (List.mem_append_right _ h))) (by decide +kernel))
set_option maxRecDepth 20000 in
theorem gL_law_X5_miss : GoodIn wsL_law (wsV RL 43 RX5 yX5_miss wsX5_miss) := goodIn_app (goodIn_of _ (by decide +kernel)) ggL_law_X5_miss
