set_option maxRecDepth 20000 in
theorem ggX4_init_X3_init : GoodIn wsX4_init wsX3_init := goodIn_r _ [19, 20, 2, 3, 16, 21, 22, 23, 24, 25, 75, 76, 77, 78, 79] (by decide +kernel) (by decide +kernel)
set_option maxRecDepth 20000 in
theorem gX4_init_X3_init_n11 : GoodIn wsX4_init (wsX3_init) := ggX4_init_X3_init
set_option maxRecDepth 20000 in
theorem ggX4_init_X1_init : GoodIn wsX4_init wsX1_init := goodIn_r _ [27, 28, 2, 3, 16, 29, 30, 31, 32, 33, 34, 24, 35, 36, 84, 85, 86, 87, 88, 89, 90, 91, 92] (by decide +kernel) (by decide +kernel)
set_option maxRecDepth 20000 in
theorem gX4_init_X1_init_n18 : GoodIn wsX4_init (wsX1_init) := ggX4_init_X1_init
set_option maxRecDepth 20000 in
theorem ggX4_init_X2_init : GoodIn wsX4_init wsX2_init := goodIn_r _ [38, 39, 2, 3, 16, 40, 41, 42, 43, 44, 45, 46, 47, 48, 93, 94, 95, 96, 97, 98, 99, 100, 101, 102, 103] (by decide +kernel) (by decide +kernel)
set_option maxRecDepth 20000 in
theorem gX4_init_X2_init_n25 : GoodIn wsX4_init (wsX2_init) := ggX4_init_X2_init
set_option maxRecDepth 20000 in
theorem ggX4_init_X4_startAnew : GoodIn wsX4_init wsX4_startAnew := goodIn_ca (goodIn_r _ [53, 7, 54, 11, 55, 56, 17, 57, 58, 59, 60, 61, 62, 63, 6, 64, 23, 65, 66, 67, 68, 69, 70, 71, 72, 73, 74, 80, 81, 82, 83, 75, 76, 77, 78, 79, 84, 85, 86, 87, 88, 89, 90, 91, 92, 104, 105, 106, 107, 108, 109] (by decide +kernel) (by decide +kernel)) (goodIn_sub (fun _ h => List.mem_cons_of_mem _ (List.mem_append_right _ h)) (by decide +kernel))
set_option maxRecDepth 20000 in
theorem gX4_init_X4_startAnew : GoodIn wsX4_init (wsV RX4 34 RX4 yX4_startAnew wsX4_startAnew) := goodIn_app (goodIn_of _ (by decide +kernel)) ggX4_init_X4_startAnew
theorem dX4_init_0 : decode cX4_init 0 = .ok (.aload_n 0, 1) := by decide +kernel
theorem dX4_init_1 : decode cX4_init 1 = .ok (.invokespecial 3, 3) := by decide +kernel
theorem dX4_init_4 : decode cX4_init 4 = .ok (.aload_n 0, 1) := by decide +kernel
theorem dX4_init_5 : decode cX4_init 5 = .ok (.new 9, 3) := by decide +kernel
theorem dX4_init_8 : decode cX4_init 8 = .ok (.dup, 1) := by decide +kernel
theorem dX4_init_9 : decode cX4_init 9 = .ok (.invokespecial 11, 3) := by decide +kernel
theorem dX4_init_12 : decode cX4_init 12 = .ok (.putfield 12, 3) := by decide +kernel
theorem dX4_init_15 : decode cX4_init 15 = .ok (.aload_n 0, 1) := by decide +kernel
theorem dX4_init_16 : decode cX4_init 16 = .ok (.new 16, 3) := by decide +kernel
theorem dX4_init_19 : decode cX4_init 19 = .ok (.dup, 1) := by decide +kernel
theorem dX4_init_20 : decode cX4_init 20 = .ok (.invokespecial 18, 3) := by decide +kernel
theorem dX4_init_23 : decode cX4_init 23 = .ok (.putfield 19, 3) := by decide +kernel
theorem dX4_init_26 : decode cX4_init 26 = .ok (.aload_n 0, 1) := by decide +kernel
theorem dX4_init_27 : decode cX4_init 27 = .ok (.new 23, 3) := by decide +kernel
theorem dX4_init_30 : decode cX4_init 30 = .ok (.dup, 1) := by decide +kernel
theorem dX4_init_31 : decode cX4_init 31 = .ok (.invokespecial 25, 3) := by decide +kernel
theorem dX4_init_34 : decode cX4_init 34 = .ok (.putfield 26, 3) := by decide +kernel
theorem dX4_init_37 : decode cX4_init 37 = .ok (.aload_n 0, 1) := by decide +kernel
theorem dX4_init_38 : decode cX4_init 38 = .ok (.iconst 4, 1) := by decide +kernel
theorem dX4_init_39 : decode cX4_init 39 = .ok (.newarray .int, 2) := by decide +kernel
theorem dX4_init_41 : decode cX4_init 41 = .ok (.putfield 30, 3) := by decide +kernel
theorem dX4_init_44 : decode cX4_init 44 = .ok (.aload_n 0, 1) := by decide +kernel
theorem dX4_init_45 : decode cX4_init 45 = .ok (.invokevirtual 34, 3) := by decide +kernel
theorem dX4_init_48 : decode cX4_init 48 = .ok (.return_, 1) := by decide +kernel
set_option maxRecDepth 20000 in
theorem ggX4_thing_X4_isList : GoodIn wsX4_thing wsX4_isList := goodIn_r _ [6] (by decide +kernel) (by decide +kernel)
set_option maxRecDepth 20000 in
theorem gX4_thing_X4_isList : GoodIn wsX4_thing (va_wsS RX4 37 yX4_isList wsX4_isList) := goodIn_app (goodIn_of _ (by decide +kernel)) ggX4_thing_X4_isList
set_option maxRecDepth 20000 in
theorem ggX4_thing_X4_isGrade : GoodIn wsX4_thing wsX4_isGrade := goodIn_r _ [9] (by decide +kernel) (by decide +kernel)
set_option maxRecDepth 20000 in
theorem gX4_thing_X4_isGrade : GoodIn wsX4_thing (va_wsS RX4 41 yX4_isGrade wsX4_isGrade) := goodIn_app (goodIn_of _ (by decide +kernel)) ggX4_thing_X4_isGrade
set_option maxRecDepth 20000 in
theorem ggX4_thing_X3_take : GoodIn wsX4_thing wsX3_take := goodIn_ca (goodIn_ca (goodIn_r _ [14, 15, 16, 17, 18, 19, 20, 13, 21, 22, 23, 24, 25, 26, 27, 28, 29, 30, 31, 32, 37, 38, 39, 40, 41, 42, 43, 44, 45, 46, 47] (by decide +kernel) (by decide +kernel)) (goodIn_sub (fun _ h => List.mem_cons_of_mem _ (List.mem_append_right _ h)) (by decide +kernel))) (goodIn_sub (fun _ h => List.mem_cons_of_mem _ (List.mem_append_left _ (List.mem_append_right _ h))) (by decide +kernel))
set_option maxRecDepth 20000 in
theorem gX4_thing_X3_take : GoodIn wsX4_thing (wsV RX4 48 RX3 yX3_take wsX3_take) := goodIn_app (goodIn_of _ (by decide +kernel)) ggX4_thing_X3_take
theorem dX4_thing_0 : decode cX4_thing 0 = .ok (.iload_n 1, 1) := by decide +kernel
theorem dX4_thing_1 : decode cX4_thing 1 = .ok (.invokestatic 37, 3) := by decide +kernel
theorem dX4_thing_4 : decode cX4_thing 4 = .ok (.ifCond .eq 10, 3) := by decide +kernel
theorem dX4_thing_7 : decode cX4_thing 7 = .ok (.iload_n 2, 1) := by decide +kernel
theorem dX4_thing_8 : decode cX4_thing 8 = .ok (.invokestatic 41, 3) := by decide +kernel
theorem dX4_thing_11 : decode cX4_thing 11 = .ok (.ifCond .ne 7, 3) := by decide +kernel
theorem dX4_thing_14 : decode cX4_thing 14 = .ok (.sipush (-10002), 3) := by decide +kernel
theorem dX4_thing_17 : decode cX4_thing 17 = .ok (.ireturn, 1) := by decide +kernel
theorem dX4_thing_18 : decode cX4_thing 18 = .ok (.aload_n 0, 1) := by decide +kernel
theorem dX4_thing_19 : decode cX4_thing 19 = .ok (.getfield 12, 3) := by decide +kernel
theorem dX4_thing_22 : decode cX4_thing 22 = .ok (.getfield 44, 3) := by decide +kernel
theorem dX4_thing_25 : decode cX4_thing 25 = .ok (.bipush 24, 2) := by decide +kernel
theorem dX4_thing_27 : decode cX4_thing 27 = .ok (.if_icmp .lt 7, 3) := by decide +kernel
theorem dX4_thing_30 : decode cX4_thing 30 = .ok (.sipush (-10003), 3) := by decide +kernel
theorem dX4_thing_33 : decode cX4_thing 33 = .ok (.ireturn, 1) := by decide +kernel
theorem dX4_thing_34 : decode cX4_thing 34 = .ok (.aload_n 0, 1) := by decide +kernel
theorem dX4_thing_35 : decode cX4_thing 35 = .ok (.getfield 12, 3) := by decide +kernel
theorem dX4_thing_38 : decode cX4_thing 38 = .ok (.iload_n 1, 1) := by decide +kernel
theorem dX4_thing_39 : decode cX4_thing 39 = .ok (.iload_n 2, 1) := by decide +kernel
theorem dX4_thing_40 : decode cX4_thing 40 = .ok (.invokevirtual 48, 3) := by decide +kernel
theorem dX4_thing_43 : decode cX4_thing 43 = .ok (.ireturn, 1) := by decide +kernel
set_option maxRecDepth 20000 in
theorem ggX4_grade_X3_has : GoodIn wsX4_grade wsX3_has := goodIn_r _ [7, 8, 17, 18, 19, 20, 21] (by decide +kernel) (by decide +kernel)
set_option maxRecDepth 20000 in
theorem gX4_grade_X3_has : GoodIn wsX4_grade (wsV RX4 52 RX3 yX3_has wsX3_has) := goodIn_app (goodIn_of _ (by decide +kernel)) ggX4_grade_X3_has
set_option maxRecDepth 20000 in
theorem ggX4_grade_X4_isGrade : GoodIn wsX4_grade wsX4_isGrade := goodIn_r _ [12] (by decide +kernel) (by decide +kernel)
set_option maxRecDepth 20000 in
theorem gX4_grade_X4_isGrade : GoodIn wsX4_grade (va_wsS RX4 41 yX4_isGrade wsX4_isGrade) := goodIn_app (goodIn_of _ (by decide +kernel)) ggX4_grade_X4_isGrade
theorem dX4_grade_0 : decode cX4_grade 0 = .ok (.aload_n 0, 1) := by decide +kernel
theorem dX4_grade_1 : decode cX4_grade 1 = .ok (.getfield 12, 3) := by decide +kernel
theorem dX4_grade_4 : decode cX4_grade 4 = .ok (.iload_n 1, 1) := by decide +kernel
theorem dX4_grade_5 : decode cX4_grade 5 = .ok (.invokevirtual 52, 3) := by decide +kernel
theorem dX4_grade_8 : decode cX4_grade 8 = .ok (.ifCond .ne 7, 3) := by decide +kernel
theorem dX4_grade_11 : decode cX4_grade 11 = .ok (.sipush (-10001), 3) := by decide +kernel
theorem dX4_grade_14 : decode cX4_grade 14 = .ok (.ireturn, 1) := by decide +kernel
theorem dX4_grade_15 : decode cX4_grade 15 = .ok (.iload_n 2, 1) := by decide +kernel
theorem dX4_grade_16 : decode cX4_grade 16 = .ok (.invokestatic 41, 3) := by decide +kernel
theorem dX4_grade_19 : decode cX4_grade 19 = .ok (.ifCond .ne 7, 3) := by decide +kernel
theorem dX4_grade_22 : decode cX4_grade 22 = .ok (.sipush (-10002), 3) := by decide +kernel
theorem dX4_grade_25 : decode cX4_grade 25 = .ok (.ireturn, 1) := by decide +kernel
theorem dX4_grade_26 : decode cX4_grade 26 = .ok (.aload_n 0, 1) := by decide +kernel
theorem dX4_grade_27 : decode cX4_grade 27 = .ok (.getfield 12, 3) := by decide +kernel
theorem dX4_grade_30 : decode cX4_grade 30 = .ok (.getfield 55, 3) := by decide +kernel
theorem dX4_grade_33 : decode cX4_grade 33 = .ok (.iload_n 1, 1) := by decide +kernel
theorem dX4_grade_34 : decode cX4_grade 34 = .ok (.iaload, 1) := by decide +kernel
theorem dX4_grade_35 : decode cX4_grade 35 = .ok (.istore_n 3, 1) := by decide +kernel
theorem dX4_grade_36 : decode cX4_grade 36 = .ok (.aload_n 0, 1) := by decide +kernel
theorem dX4_grade_37 : decode cX4_grade 37 = .ok (.getfield 12, 3) := by decide +kernel
theorem dX4_grade_40 : decode cX4_grade 40 = .ok (.getfield 55, 3) := by decide +kernel
theorem dX4_grade_43 : decode cX4_grade 43 = .ok (.iload_n 1, 1) := by decide +kernel
theorem dX4_grade_44 : decode cX4_grade 44 = .ok (.iload_n 2, 1) := by decide +kernel
theorem dX4_grade_45 : decode cX4_grade 45 = .ok (.iastore, 1) := by decide +kernel
theorem dX4_grade_46 : decode cX4_grade 46 = .ok (.iload_n 3, 1) := by decide +kernel
theorem dX4_grade_47 : decode cX4_grade 47 = .ok (.ireturn, 1) := by decide +kernel
set_option maxRecDepth 20000 in
theorem ggX4_feature_X3_rowOf : GoodIn wsX4_feature wsX3_rowOf := goodIn_ca (goodIn_r _ [6, 7, 8, 9, 5, 10, 11, 25, 26, 27, 28, 29] (by decide +kernel) (by decide +kernel)) (goodIn_sub (fun _ h => List.mem_cons_of_mem _ (List.mem_append_left _ (List.mem_append_right _ h))) (by decide +kernel))
set_option maxRecDepth 20000 in
theorem gX4_feature_X3_rowOf : GoodIn wsX4_feature (wsV RX4 58 RX3 yX3_rowOf wsX3_rowOf) := goodIn_app (goodIn_of _ (by decide +kernel)) ggX4_feature_X3_rowOf
set_option maxRecDepth 20000 in
theorem ggX4_feature_X4_isFeature : GoodIn wsX4_feature wsX4_isFeature := goodIn_r _ [15] (by decide +kernel) (by decide +kernel)
set_option maxRecDepth 20000 in
theorem gX4_feature_X4_isFeature : GoodIn wsX4_feature (va_wsS RX4 62 yX4_isFeature wsX4_isFeature) := goodIn_app (goodIn_of _ (by decide +kernel)) ggX4_feature_X4_isFeature
set_option maxRecDepth 20000 in
theorem ggX4_feature_X3_replace : GoodIn wsX4_feature wsX3_replace := goodIn_ca (goodIn_ca (goodIn_r _ [19, 20, 25, 26, 27, 28, 29] (by decide +kernel) (by decide +kernel)) (goodIn_sub (fun _ h => List.mem_cons_of_mem _ (List.mem_append_right _ h)) (by decide +kernel))) (goodIn_sub (fun _ h => List.mem_cons_of_mem _ (List.mem_append_left _ (List.mem_append_right _ h))) (by decide +kernel))
set_option maxRecDepth 20000 in
theorem gX4_feature_X3_replace : GoodIn wsX4_feature (wsV RX4 65 RX3 yX3_replace wsX3_replace) := goodIn_app (goodIn_of _ (by decide +kernel)) ggX4_feature_X3_replace
theorem dX4_feature_0 : decode cX4_feature 0 = .ok (.aload_n 0, 1) := by decide +kernel
theorem dX4_feature_1 : decode cX4_feature 1 = .ok (.getfield 12, 3) := by decide +kernel
theorem dX4_feature_4 : decode cX4_feature 4 = .ok (.iload_n 1, 1) := by decide +kernel
theorem dX4_feature_5 : decode cX4_feature 5 = .ok (.invokevirtual 58, 3) := by decide +kernel
theorem dX4_feature_8 : decode cX4_feature 8 = .ok (.istore 4, 2) := by decide +kernel
theorem dX4_feature_10 : decode cX4_feature 10 = .ok (.iload 4, 2) := by decide +kernel
theorem dX4_feature_12 : decode cX4_feature 12 = .ok (.iconst (-1), 1) := by decide +kernel
theorem dX4_feature_13 : decode cX4_feature 13 = .ok (.if_icmp .ne 7, 3) := by decide +kernel
theorem dX4_feature_16 : decode cX4_feature 16 = .ok (.sipush (-10001), 3) := by decide +kernel
theorem dX4_feature_19 : decode cX4_feature 19 = .ok (.ireturn, 1) := by decide +kernel
theorem dX4_feature_20 : decode cX4_feature 20 = .ok (.iload_n 2, 1) := by decide +kernel
theorem dX4_feature_21 : decode cX4_feature 21 = .ok (.invokestatic 62, 3) := by decide +kernel
theorem dX4_feature_24 : decode cX4_feature 24 = .ok (.ifCond .eq 17, 3) := by decide +kernel
theorem dX4_feature_27 : decode cX4_feature 27 = .ok (.iload_n 3, 1) := by decide +kernel
theorem dX4_feature_28 : decode cX4_feature 28 = .ok (.sipush (-1000), 3) := by decide +kernel
theorem dX4_feature_31 : decode cX4_feature 31 = .ok (.if_icmp .lt 10, 3) := by decide +kernel
theorem dX4_feature_34 : decode cX4_feature 34 = .ok (.iload_n 3, 1) := by decide +kernel
theorem dX4_feature_35 : decode cX4_feature 35 = .ok (.sipush 1000, 3) := by decide +kernel
theorem dX4_feature_38 : decode cX4_feature 38 = .ok (.if_icmp .le 7, 3) := by decide +kernel
theorem dX4_feature_41 : decode cX4_feature 41 = .ok (.sipush (-10002), 3) := by decide +kernel
theorem dX4_feature_44 : decode cX4_feature 44 = .ok (.ireturn, 1) := by decide +kernel
theorem dX4_feature_45 : decode cX4_feature 45 = .ok (.aload_n 0, 1) := by decide +kernel
theorem dX4_feature_46 : decode cX4_feature 46 = .ok (.getfield 12, 3) := by decide +kernel
theorem dX4_feature_49 : decode cX4_feature 49 = .ok (.iload 4, 2) := by decide +kernel
theorem dX4_feature_51 : decode cX4_feature 51 = .ok (.iload_n 2, 1) := by decide +kernel
theorem dX4_feature_52 : decode cX4_feature 52 = .ok (.iload_n 3, 1) := by decide +kernel
theorem dX4_feature_53 : decode cX4_feature 53 = .ok (.invokevirtual 65, 3) := by decide +kernel
theorem dX4_feature_56 : decode cX4_feature 56 = .ok (.sipush (-1001), 3) := by decide +kernel
theorem dX4_feature_59 : decode cX4_feature 59 = .ok (.if_icmp .ne 7, 3) := by decide +kernel
theorem dX4_feature_62 : decode cX4_feature 62 = .ok (.iconst 0, 1) := by decide +kernel
theorem dX4_feature_63 : decode cX4_feature 63 = .ok (.goto 4, 3) := by decide +kernel
theorem dX4_feature_66 : decode cX4_feature 66 = .ok (.iconst 1, 1) := by decide +kernel
theorem dX4_feature_67 : decode cX4_feature 67 = .ok (.ireturn, 1) := by decide +kernel
set_option maxRecDepth 20000 in
theorem ggX4_miss_X3_rowOf : GoodIn wsX4_miss wsX3_rowOf := goodIn_ca (goodIn_r _ [6, 7, 8, 9, 5, 10, 11, 25, 26, 27, 28, 29] (by decide +kernel) (by decide +kernel)) (goodIn_sub (fun _ h => List.mem_cons_of_mem _ (List.mem_append_left _ (List.mem_append_right _ h))) (by decide +kernel))
set_option maxRecDepth 20000 in
theorem gX4_miss_X3_rowOf : GoodIn wsX4_miss (wsV RX4 58 RX3 yX3_rowOf wsX3_rowOf) := goodIn_app (goodIn_of _ (by decide +kernel)) ggX4_miss_X3_rowOf
set_option maxRecDepth 20000 in
theorem ggX4_miss_X4_isFeature : GoodIn wsX4_miss wsX4_isFeature := goodIn_r _ [15] (by decide +kernel) (by decide +kernel)
set_option maxRecDepth 20000 in
theorem gX4_miss_X4_isFeature : GoodIn wsX4_miss (va_wsS RX4 62 yX4_isFeature wsX4_isFeature) := goodIn_app (goodIn_of _ (by decide +kernel)) ggX4_miss_X4_isFeature
set_option maxRecDepth 20000 in
theorem ggX4_miss_X3_replace : GoodIn wsX4_miss wsX3_replace := goodIn_ca (goodIn_ca (goodIn_r _ [19, 20, 25, 26, 27, 28, 29] (by decide +kernel) (by decide +kernel)) (goodIn_sub (fun _ h => List.mem_cons_of_mem _ (List.mem_append_right _ h)) (by decide +kernel))) (goodIn_sub (fun _ h => List.mem_cons_of_mem _ (List.mem_append_left _ (List.mem_append_right _ h))) (by decide +kernel))
set_option maxRecDepth 20000 in
theorem gX4_miss_X3_replace : GoodIn wsX4_miss (wsV RX4 65 RX3 yX3_replace wsX3_replace) := goodIn_app (goodIn_of _ (by decide +kernel)) ggX4_miss_X3_replace
theorem dX4_miss_0 : decode cX4_miss 0 = .ok (.aload_n 0, 1) := by decide +kernel
theorem dX4_miss_1 : decode cX4_miss 1 = .ok (.getfield 12, 3) := by decide +kernel
theorem dX4_miss_4 : decode cX4_miss 4 = .ok (.iload_n 1, 1) := by decide +kernel
theorem dX4_miss_5 : decode cX4_miss 5 = .ok (.invokevirtual 58, 3) := by decide +kernel
theorem dX4_miss_8 : decode cX4_miss 8 = .ok (.istore_n 3, 1) := by decide +kernel
theorem dX4_miss_9 : decode cX4_miss 9 = .ok (.iload_n 3, 1) := by decide +kernel
theorem dX4_miss_10 : decode cX4_miss 10 = .ok (.iconst (-1), 1) := by decide +kernel
theorem dX4_miss_11 : decode cX4_miss 11 = .ok (.if_icmp .ne 7, 3) := by decide +kernel
theorem dX4_miss_14 : decode cX4_miss 14 = .ok (.sipush (-10001), 3) := by decide +kernel
theorem dX4_miss_17 : decode cX4_miss 17 = .ok (.ireturn, 1) := by decide +kernel
theorem dX4_miss_18 : decode cX4_miss 18 = .ok (.iload_n 2, 1) := by decide +kernel
theorem dX4_miss_19 : decode cX4_miss 19 = .ok (.invokestatic 62, 3) := by decide +kernel
theorem dX4_miss_22 : decode cX4_miss 22 = .ok (.ifCond .ne 7, 3) := by decide +kernel
theorem dX4_miss_25 : decode cX4_miss 25 = .ok (.sipush (-10002), 3) := by decide +kernel
theorem dX4_miss_28 : decode cX4_miss 28 = .ok (.ireturn, 1) := by decide +kernel
theorem dX4_miss_29 : decode cX4_miss 29 = .ok (.aload_n 0, 1) := by decide +kernel
theorem dX4_miss_30 : decode cX4_miss 30 = .ok (.getfield 12, 3) := by decide +kernel
theorem dX4_miss_33 : decode cX4_miss 33 = .ok (.iload_n 3, 1) := by decide +kernel
theorem dX4_miss_34 : decode cX4_miss 34 = .ok (.iload_n 2, 1) := by decide +kernel
theorem dX4_miss_35 : decode cX4_miss 35 = .ok (.sipush (-1001), 3) := by decide +kernel
theorem dX4_miss_38 : decode cX4_miss 38 = .ok (.invokevirtual 65, 3) := by decide +kernel
theorem dX4_miss_41 : decode cX4_miss 41 = .ok (.sipush (-1001), 3) := by decide +kernel
theorem dX4_miss_44 : decode cX4_miss 44 = .ok (.if_icmp .ne 7, 3) := by decide +kernel
theorem dX4_miss_47 : decode cX4_miss 47 = .ok (.iconst 0, 1) := by decide +kernel
theorem dX4_miss_48 : decode cX4_miss 48 = .ok (.goto 4, 3) := by decide +kernel
theorem dX4_miss_51 : decode cX4_miss 51 = .ok (.iconst 1, 1) := by decide +kernel
theorem dX4_miss_52 : decode cX4_miss 52 = .ok (.ireturn, 1) := by decide +kernel
set_option maxRecDepth 20000 in
theorem ggX4_told_X3_has : GoodIn wsX4_told wsX3_has := goodIn_r _ [12, 13, 41, 42, 43, 44, 45] (by decide +kernel) (by decide +kernel)
set_option maxRecDepth 20000 in
theorem gX4_told_X3_has : GoodIn wsX4_told (wsV RX4 52 RX3 yX3_has wsX3_has) := goodIn_app (goodIn_of _ (by decide +kernel)) ggX4_told_X3_has
set_option maxRecDepth 20000 in
theorem ggX4_told_X4_isFeature : GoodIn wsX4_told wsX4_isFeature := goodIn_r _ [17] (by decide +kernel) (by decide +kernel)
set_option maxRecDepth 20000 in
theorem gX4_told_X4_isFeature : GoodIn wsX4_told (va_wsS RX4 62 yX4_isFeature wsX4_isFeature) := goodIn_app (goodIn_of _ (by decide +kernel)) ggX4_told_X4_isFeature
set_option maxRecDepth 20000 in
theorem ggX4_told_X3_numberAt : GoodIn wsX4_told wsX3_numberAt := goodIn_ca (goodIn_ca (goodIn_r _ [21, 22, 41, 42, 43, 44, 45] (by decide +kernel) (by decide +kernel)) (goodIn_sub (fun _ h => List.mem_cons_of_mem _ (List.mem_append_right _ h)) (by decide +kernel))) (goodIn_sub (fun _ h => List.mem_cons_of_mem _ (List.mem_append_left _ (List.mem_append_right _ h))) (by decide +kernel))
set_option maxRecDepth 20000 in
theorem gX4_told_X3_numberAt : GoodIn wsX4_told (wsV RX4 83 RX3 yX3_numberAt wsX3_numberAt) := goodIn_app (goodIn_of _ (by decide +kernel)) ggX4_told_X3_numberAt
theorem dX4_told_0 : decode cX4_told 0 = .ok (.iload_n 1, 1) := by decide +kernel
theorem dX4_told_1 : decode cX4_told 1 = .ok (.ifCond .lt 9, 3) := by decide +kernel
theorem dX4_told_4 : decode cX4_told 4 = .ok (.iload_n 1, 1) := by decide +kernel
theorem dX4_told_5 : decode cX4_told 5 = .ok (.bipush 24, 2) := by decide +kernel
theorem dX4_told_7 : decode cX4_told 7 = .ok (.if_icmp .lt 13, 3) := by decide +kernel
theorem dX4_told_10 : decode cX4_told 10 = .ok (.new 69, 3) := by decide +kernel
theorem dX4_told_13 : decode cX4_told 13 = .ok (.dup, 1) := by decide +kernel
theorem dX4_told_14 : decode cX4_told 14 = .ok (.ldc 71, 2) := by decide +kernel
theorem dX4_told_16 : decode cX4_told 16 = .ok (.invokespecial 73, 3) := by decide +kernel
theorem dX4_told_19 : decode cX4_told 19 = .ok (.athrow, 1) := by decide +kernel
theorem dX4_told_20 : decode cX4_told 20 = .ok (.aload_n 0, 1) := by decide +kernel
theorem dX4_told_21 : decode cX4_told 21 = .ok (.getfield 12, 3) := by decide +kernel
theorem dX4_told_24 : decode cX4_told 24 = .ok (.iload_n 1, 1) := by decide +kernel
theorem dX4_told_25 : decode cX4_told 25 = .ok (.invokevirtual 52, 3) := by decide +kernel
theorem dX4_told_28 : decode cX4_told 28 = .ok (.ifCond .ne 13, 3) := by decide +kernel
theorem dX4_told_31 : decode cX4_told 31 = .ok (.new 76, 3) := by decide +kernel
theorem dX4_told_34 : decode cX4_told 34 = .ok (.dup, 1) := by decide +kernel
theorem dX4_told_35 : decode cX4_told 35 = .ok (.ldc 78, 2) := by decide +kernel
theorem dX4_told_37 : decode cX4_told 37 = .ok (.invokespecial 80, 3) := by decide +kernel
theorem dX4_told_40 : decode cX4_told 40 = .ok (.athrow, 1) := by decide +kernel
theorem dX4_told_41 : decode cX4_told 41 = .ok (.iload_n 2, 1) := by decide +kernel
theorem dX4_told_42 : decode cX4_told 42 = .ok (.invokestatic 62, 3) := by decide +kernel
theorem dX4_told_45 : decode cX4_told 45 = .ok (.ifCond .ne 13, 3) := by decide +kernel
theorem dX4_told_48 : decode cX4_told 48 = .ok (.new 69, 3) := by decide +kernel
theorem dX4_told_51 : decode cX4_told 51 = .ok (.dup, 1) := by decide +kernel
theorem dX4_told_52 : decode cX4_told 52 = .ok (.ldc 81, 2) := by decide +kernel
theorem dX4_told_54 : decode cX4_told 54 = .ok (.invokespecial 73, 3) := by decide +kernel
theorem dX4_told_57 : decode cX4_told 57 = .ok (.athrow, 1) := by decide +kernel
theorem dX4_told_58 : decode cX4_told 58 = .ok (.aload_n 0, 1) := by decide +kernel
theorem dX4_told_59 : decode cX4_told 59 = .ok (.getfield 12, 3) := by decide +kernel
theorem dX4_told_62 : decode cX4_told 62 = .ok (.iload_n 1, 1) := by decide +kernel
theorem dX4_told_63 : decode cX4_told 63 = .ok (.iload_n 2, 1) := by decide +kernel
theorem dX4_told_64 : decode cX4_told 64 = .ok (.invokevirtual 83, 3) := by decide +kernel
theorem dX4_told_67 : decode cX4_told 67 = .ok (.istore_n 3, 1) := by decide +kernel
theorem dX4_told_68 : decode cX4_told 68 = .ok (.iload_n 3, 1) := by decide +kernel
theorem dX4_told_69 : decode cX4_told 69 = .ok (.sipush (-1001), 3) := by decide +kernel
theorem dX4_told_72 : decode cX4_told 72 = .ok (.if_icmp .ne 13, 3) := by decide +kernel
theorem dX4_told_75 : decode cX4_told 75 = .ok (.new 76, 3) := by decide +kernel
theorem dX4_told_78 : decode cX4_told 78 = .ok (.dup, 1) := by decide +kernel
theorem dX4_told_79 : decode cX4_told 79 = .ok (.ldc 86, 2) := by decide +kernel
theorem dX4_told_81 : decode cX4_told 81 = .ok (.invokespecial 80, 3) := by decide +kernel
theorem dX4_told_84 : decode cX4_told 84 = .ok (.athrow, 1) := by decide +kernel
theorem dX4_told_85 : decode cX4_told 85 = .ok (.iload_n 3, 1) := by decide +kernel
theorem dX4_told_86 : decode cX4_told 86 = .ok (.ireturn, 1) := by decide +kernel
theorem dX4_setting_0 : decode cX4_setting 0 = .ok (.iload_n 1, 1) := by decide +kernel
theorem dX4_setting_1 : decode cX4_setting 1 = .ok (.ifCond .lt 8, 3) := by decide +kernel
theorem dX4_setting_4 : decode cX4_setting 4 = .ok (.iload_n 1, 1) := by decide +kernel
theorem dX4_setting_5 : decode cX4_setting 5 = .ok (.iconst 4, 1) := by decide +kernel
theorem dX4_setting_6 : decode cX4_setting 6 = .ok (.if_icmp .lt 7, 3) := by decide +kernel
theorem dX4_setting_9 : decode cX4_setting 9 = .ok (.sipush (-10002), 3) := by decide +kernel
theorem dX4_setting_12 : decode cX4_setting 12 = .ok (.ireturn, 1) := by decide +kernel
theorem dX4_setting_13 : decode cX4_setting 13 = .ok (.iload_n 2, 1) := by decide +kernel
theorem dX4_setting_14 : decode cX4_setting 14 = .ok (.getstatic 88, 3) := by decide +kernel
theorem dX4_setting_17 : decode cX4_setting 17 = .ok (.iload_n 1, 1) := by decide +kernel
theorem dX4_setting_18 : decode cX4_setting 18 = .ok (.iaload, 1) := by decide +kernel
theorem dX4_setting_19 : decode cX4_setting 19 = .ok (.if_icmp .lt 12, 3) := by decide +kernel
theorem dX4_setting_22 : decode cX4_setting 22 = .ok (.iload_n 2, 1) := by decide +kernel
theorem dX4_setting_23 : decode cX4_setting 23 = .ok (.getstatic 91, 3) := by decide +kernel
theorem dX4_setting_26 : decode cX4_setting 26 = .ok (.iload_n 1, 1) := by decide +kernel
theorem dX4_setting_27 : decode cX4_setting 27 = .ok (.iaload, 1) := by decide +kernel
theorem dX4_setting_28 : decode cX4_setting 28 = .ok (.if_icmp .le 7, 3) := by decide +kernel
theorem dX4_setting_31 : decode cX4_setting 31 = .ok (.sipush (-10002), 3) := by decide +kernel
theorem dX4_setting_34 : decode cX4_setting 34 = .ok (.ireturn, 1) := by decide +kernel
theorem dX4_setting_35 : decode cX4_setting 35 = .ok (.aload_n 0, 1) := by decide +kernel
theorem dX4_setting_36 : decode cX4_setting 36 = .ok (.getfield 30, 3) := by decide +kernel
theorem dX4_setting_39 : decode cX4_setting 39 = .ok (.iload_n 1, 1) := by decide +kernel
theorem dX4_setting_40 : decode cX4_setting 40 = .ok (.iaload, 1) := by decide +kernel
theorem dX4_setting_41 : decode cX4_setting 41 = .ok (.istore_n 3, 1) := by decide +kernel
theorem dX4_setting_42 : decode cX4_setting 42 = .ok (.aload_n 0, 1) := by decide +kernel
theorem dX4_setting_43 : decode cX4_setting 43 = .ok (.getfield 30, 3) := by decide +kernel
theorem dX4_setting_46 : decode cX4_setting 46 = .ok (.iload_n 1, 1) := by decide +kernel
theorem dX4_setting_47 : decode cX4_setting 47 = .ok (.iload_n 2, 1) := by decide +kernel
theorem dX4_setting_48 : decode cX4_setting 48 = .ok (.iastore, 1) := by decide +kernel
theorem dX4_setting_49 : decode cX4_setting 49 = .ok (.iload_n 3, 1) := by decide +kernel
theorem dX4_setting_50 : decode cX4_setting 50 = .ok (.ireturn, 1) := by decide +kernel
set_option maxRecDepth 20000 in
theorem ggX4_grow_X3_takeScores : GoodIn wsX4_grow wsX3_takeScores := goodIn_ca (goodIn_ca (goodIn_r _ [11, 12, 13, 14, 15, 16, 17, 18, 19, 20, 21, 22, 23, 24, 25, 26, 27, 28, 29, 30, 31, 10, 32, 33, 34, 35, 36, 37, 161, 162, 163, 164, 165, 152, 153, 154, 155, 156, 157, 158, 159, 160] (by decide +kernel) (by decide +kernel)) (goodIn_sub (fun _ h => List.mem_cons_of_mem _ (List.mem_append_left _ (List.mem_append_left _ (List.mem_append_right _ h)))) (by decide +kernel))) (goodIn_sub (fun _ h => List.mem_cons_of_mem _ (List.mem_append_left _ (List.mem_append_right _ h))) (by decide +kernel))
set_option maxRecDepth 20000 in
theorem gX4_grow_X3_takeScores : GoodIn wsX4_grow (wsV RX4 95 RX3 yX3_takeScores wsX3_takeScores) := goodIn_app (goodIn_of _ (by decide +kernel)) ggX4_grow_X3_takeScores
set_option maxRecDepth 20000 in
theorem ggX4_grow_X1_addTree : GoodIn wsX4_grow wsX1_addTree := goodIn_ca (goodIn_r _ [41, 19, 24, 42, 43, 44, 45, 46, 47, 48, 49, 50, 51, 152, 153, 154, 155, 156, 157, 158, 159, 160, 166, 167, 168, 169, 170, 171] (by decide +kernel) (by decide +kernel)) (goodIn_sub (fun _ h => List.mem_cons_of_mem _ (List.mem_append_left _ (List.mem_append_left _ (List.mem_append_right _ h)))) (by decide +kernel))
set_option maxRecDepth 20000 in
theorem gX4_grow_X1_addTree : GoodIn wsX4_grow (wsV RX4 99 RX1 yX1_addTree wsX1_addTree) := goodIn_app (goodIn_of _ (by decide +kernel)) ggX4_grow_X1_addTree
set_option maxRecDepth 20000 in
theorem ggX4_grow_X2_growTree : GoodIn wsX4_grow wsX2_growTree := goodIn_ca (goodIn_ca (goodIn_ca (goodIn_r _ [56, 57, 58, 59, 60, 61, 62, 63, 10, 64, 12, 65, 66, 67, 68, 13, 69, 70, 71, 72, 73, 74, 75, 76, 77, 55, 78, 79, 80, 81, 82, 83, 84, 85, 86, 87, 88, 89, 90, 91, 92, 93, 34, 35, 36, 37, 94, 95, 96, 97, 98, 30, 31, 32, 33, 99, 100, 101, 102, 103, 104, 105, 106, 107, 108, 109, 110, 111, 112, 113, 114, 115, 116, 17, 117, 24, 118, 25, 119, 26, 120, 27, 121, 122, 123, 124, 125, 126, 127, 128, 129, 130, 131, 132, 133, 134, 135, 136, 137, 138, 139, 140, 141, 142, 143, 28, 161, 162, 163, 164, 165, 172, 173, 174, 175, 176, 177, 178, 179, 180, 181, 182, 152, 153, 154, 155, 156, 157, 158, 159, 160] (by decide +kernel) (by decide +kernel)) (goodIn_sub (fun _ h => List.mem_cons_of_mem _ (List.mem_append_left _ (List.mem_append_left _ (List.mem_append_right _ h)))) (by decide +kernel))) (goodIn_sub (fun _ h => List.mem_cons_of_mem _ (List.mem_append_left _ (List.mem_append_right _ h))) (by decide +kernel))) (goodIn_sub (fun _ h => List.mem_cons_of_mem _ (List.mem_append_right _ h)) (by decide +kernel))
set_option maxRecDepth 20000 in
theorem gX4_grow_X2_growTree : GoodIn wsX4_grow (wsV RX4 103 RX2 yX2_growTree wsX2_growTree) := goodIn_app (goodIn_of _ (by decide +kernel)) ggX4_grow_X2_growTree
set_option maxRecDepth 20000 in
theorem ggX4_grow_X1_countLeaves : GoodIn wsX4_grow wsX1_countLeaves := goodIn_ca (goodIn_ca (goodIn_r _ [147, 24, 152, 153, 154, 155, 156, 157, 158, 159, 160] (by decide +kernel) (by decide +kernel)) (goodIn_sub (fun _ h => List.mem_cons_of_mem _ (List.mem_append_left _ (List.mem_append_right _ h))) (by decide +kernel))) (goodIn_sub (fun _ h => List.mem_cons_of_mem _ (List.mem_append_left _ (List.mem_append_left _ (List.mem_append_right _ h)))) (by decide +kernel))
set_option maxRecDepth 20000 in
theorem gX4_grow_X1_countLeaves : GoodIn wsX4_grow (wsV RX4 107 RX1 yX1_countLeaves wsX1_countLeaves) := goodIn_app (goodIn_of _ (by decide +kernel)) ggX4_grow_X1_countLeaves
theorem dX4_grow_0 : decode cX4_grow 0 = .ok (.aload_n 0, 1) := by decide +kernel
theorem dX4_grow_1 : decode cX4_grow 1 = .ok (.getfield 19, 3) := by decide +kernel
theorem dX4_grow_4 : decode cX4_grow 4 = .ok (.getfield 94, 3) := by decide +kernel
theorem dX4_grow_7 : decode cX4_grow 7 = .ok (.bipush 20, 2) := by decide +kernel
theorem dX4_grow_9 : decode cX4_grow 9 = .ok (.if_icmp .lt 7, 3) := by decide +kernel
theorem dX4_grow_12 : decode cX4_grow 12 = .ok (.sipush (-10003), 3) := by decide +kernel
theorem dX4_grow_15 : decode cX4_grow 15 = .ok (.ireturn, 1) := by decide +kernel
theorem dX4_grow_16 : decode cX4_grow 16 = .ok (.aload_n 0, 1) := by decide +kernel
theorem dX4_grow_17 : decode cX4_grow 17 = .ok (.getfield 12, 3) := by decide +kernel
theorem dX4_grow_20 : decode cX4_grow 20 = .ok (.getfield 44, 3) := by decide +kernel
theorem dX4_grow_23 : decode cX4_grow 23 = .ok (.ifCond .ne 7, 3) := by decide +kernel
theorem dX4_grow_26 : decode cX4_grow 26 = .ok (.sipush (-10004), 3) := by decide +kernel
theorem dX4_grow_29 : decode cX4_grow 29 = .ok (.ireturn, 1) := by decide +kernel
theorem dX4_grow_30 : decode cX4_grow 30 = .ok (.aload_n 0, 1) := by decide +kernel
theorem dX4_grow_31 : decode cX4_grow 31 = .ok (.getfield 12, 3) := by decide +kernel
theorem dX4_grow_34 : decode cX4_grow 34 = .ok (.aload_n 0, 1) := by decide +kernel
theorem dX4_grow_35 : decode cX4_grow 35 = .ok (.getfield 19, 3) := by decide +kernel
theorem dX4_grow_38 : decode cX4_grow 38 = .ok (.invokevirtual 95, 3) := by decide +kernel
theorem dX4_grow_41 : decode cX4_grow 41 = .ok (.aload_n 0, 1) := by decide +kernel
theorem dX4_grow_42 : decode cX4_grow 42 = .ok (.getfield 19, 3) := by decide +kernel
theorem dX4_grow_45 : decode cX4_grow 45 = .ok (.invokevirtual 99, 3) := by decide +kernel
theorem dX4_grow_48 : decode cX4_grow 48 = .ok (.istore_n 1, 1) := by decide +kernel
theorem dX4_grow_49 : decode cX4_grow 49 = .ok (.aload_n 0, 1) := by decide +kernel
theorem dX4_grow_50 : decode cX4_grow 50 = .ok (.getfield 26, 3) := by decide +kernel
theorem dX4_grow_53 : decode cX4_grow 53 = .ok (.aload_n 0, 1) := by decide +kernel
theorem dX4_grow_54 : decode cX4_grow 54 = .ok (.getfield 12, 3) := by decide +kernel
theorem dX4_grow_57 : decode cX4_grow 57 = .ok (.aload_n 0, 1) := by decide +kernel
theorem dX4_grow_58 : decode cX4_grow 58 = .ok (.getfield 19, 3) := by decide +kernel
theorem dX4_grow_61 : decode cX4_grow 61 = .ok (.iload_n 1, 1) := by decide +kernel
theorem dX4_grow_62 : decode cX4_grow 62 = .ok (.aload_n 0, 1) := by decide +kernel
theorem dX4_grow_63 : decode cX4_grow 63 = .ok (.getfield 30, 3) := by decide +kernel
theorem dX4_grow_66 : decode cX4_grow 66 = .ok (.invokevirtual 103, 3) := by decide +kernel
theorem dX4_grow_69 : decode cX4_grow 69 = .ok (.aload_n 0, 1) := by decide +kernel
theorem dX4_grow_70 : decode cX4_grow 70 = .ok (.getfield 19, 3) := by decide +kernel
theorem dX4_grow_73 : decode cX4_grow 73 = .ok (.iload_n 1, 1) := by decide +kernel
theorem dX4_grow_74 : decode cX4_grow 74 = .ok (.iload_n 1, 1) := by decide +kernel
theorem dX4_grow_75 : decode cX4_grow 75 = .ok (.iconst 1, 1) := by decide +kernel
theorem dX4_grow_76 : decode cX4_grow 76 = .ok (.iadd, 1) := by decide +kernel
theorem dX4_grow_77 : decode cX4_grow 77 = .ok (.invokevirtual 107, 3) := by decide +kernel
theorem dX4_grow_80 : decode cX4_grow 80 = .ok (.ireturn, 1) := by decide +kernel
theorem dX4_cut_0 : decode cX4_cut 0 = .ok (.aload_n 0, 1) := by decide +kernel
theorem dX4_cut_1 : decode cX4_cut 1 = .ok (.getfield 19, 3) := by decide +kernel
theorem dX4_cut_4 : decode cX4_cut 4 = .ok (.getfield 94, 3) := by decide +kernel
theorem dX4_cut_7 : decode cX4_cut 7 = .ok (.ifCond .ne 7, 3) := by decide +kernel
theorem dX4_cut_10 : decode cX4_cut 10 = .ok (.sipush (-10004), 3) := by decide +kernel
theorem dX4_cut_13 : decode cX4_cut 13 = .ok (.ireturn, 1) := by decide +kernel
theorem dX4_cut_14 : decode cX4_cut 14 = .ok (.aload_n 0, 1) := by decide +kernel
theorem dX4_cut_15 : decode cX4_cut 15 = .ok (.getfield 19, 3) := by decide +kernel
theorem dX4_cut_18 : decode cX4_cut 18 = .ok (.dup, 1) := by decide +kernel
theorem dX4_cut_19 : decode cX4_cut 19 = .ok (.getfield 94, 3) := by decide +kernel
theorem dX4_cut_22 : decode cX4_cut 22 = .ok (.iconst 1, 1) := by decide +kernel
theorem dX4_cut_23 : decode cX4_cut 23 = .ok (.isub, 1) := by decide +kernel
theorem dX4_cut_24 : decode cX4_cut 24 = .ok (.putfield 94, 3) := by decide +kernel
theorem dX4_cut_27 : decode cX4_cut 27 = .ok (.aload_n 0, 1) := by decide +kernel
theorem dX4_cut_28 : decode cX4_cut 28 = .ok (.getfield 19, 3) := by decide +kernel
theorem dX4_cut_31 : decode cX4_cut 31 = .ok (.getfield 94, 3) := by decide +kernel
theorem dX4_cut_34 : decode cX4_cut 34 = .ok (.ireturn, 1) := by decide +kernel
set_option maxRecDepth 20000 in
theorem ggX4_node_X1_find : GoodIn wsX4_node wsX1_find := goodIn_ca (goodIn_ca (goodIn_r _ [12, 13, 14, 15, 16, 11, 17, 18, 23, 24, 25, 26, 27, 28, 29, 30, 31] (by decide +kernel) (by decide +kernel)) (goodIn_sub (fun _ h => List.mem_cons_of_mem _ (List.mem_append_left _ (List.mem_append_right _ h))) (by decide +kernel))) (goodIn_sub (fun _ h => List.mem_cons_of_mem _ (List.mem_append_right _ h)) (by decide +kernel))
set_option maxRecDepth 20000 in
theorem gX4_node_X1_find : GoodIn wsX4_node (wsV RX4 110 RX1 yX1_find wsX1_find) := goodIn_app (goodIn_of _ (by decide +kernel)) ggX4_node_X1_find
theorem dX4_node_0 : decode cX4_node 0 = .ok (.aload_n 0, 1) := by decide +kernel
theorem dX4_node_1 : decode cX4_node 1 = .ok (.getfield 19, 3) := by decide +kernel
theorem dX4_node_4 : decode cX4_node 4 = .ok (.iload_n 1, 1) := by decide +kernel
theorem dX4_node_5 : decode cX4_node 5 = .ok (.iload_n 2, 1) := by decide +kernel
theorem dX4_node_6 : decode cX4_node 6 = .ok (.invokevirtual 110, 3) := by decide +kernel
theorem dX4_node_9 : decode cX4_node 9 = .ok (.istore 4, 2) := by decide +kernel
theorem dX4_node_11 : decode cX4_node 11 = .ok (.iload 4, 2) := by decide +kernel
theorem dX4_node_13 : decode cX4_node 13 = .ok (.iconst (-1), 1) := by decide +kernel
theorem dX4_node_14 : decode cX4_node 14 = .ok (.if_icmp .ne 7, 3) := by decide +kernel
theorem dX4_node_17 : decode cX4_node 17 = .ok (.sipush (-10001), 3) := by decide +kernel
theorem dX4_node_20 : decode cX4_node 20 = .ok (.ireturn, 1) := by decide +kernel
theorem dX4_node_21 : decode cX4_node 21 = .ok (.aload_n 0, 1) := by decide +kernel
theorem dX4_node_22 : decode cX4_node 22 = .ok (.getfield 19, 3) := by decide +kernel
theorem dX4_node_25 : decode cX4_node 25 = .ok (.getfield 113, 3) := by decide +kernel
theorem dX4_node_28 : decode cX4_node 28 = .ok (.iload 4, 2) := by decide +kernel
theorem dX4_node_30 : decode cX4_node 30 = .ok (.iaload, 1) := by decide +kernel
theorem dX4_node_31 : decode cX4_node 31 = .ok (.iconst 2, 1) := by decide +kernel
theorem dX4_node_32 : decode cX4_node 32 = .ok (.if_icmp .ne 7, 3) := by decide +kernel
theorem dX4_node_35 : decode cX4_node 35 = .ok (.iconst 1, 1) := by decide +kernel
theorem dX4_node_36 : decode cX4_node 36 = .ok (.goto 4, 3) := by decide +kernel
theorem dX4_node_39 : decode cX4_node 39 = .ok (.iconst 0, 1) := by decide +kernel
theorem dX4_node_40 : decode cX4_node 40 = .ok (.istore 5, 2) := by decide +kernel
theorem dX4_node_42 : decode cX4_node 42 = .ok (.iload_n 3, 1) := by decide +kernel
theorem dX4_node_43 : decode cX4_node 43 = .ok (.tableswitch 147 0 5 #[37, 48, 70, 92, 114, 136], 37) := by decide +kernel
theorem dX4_node_80 : decode cX4_node 80 = .ok (.iload 5, 2) := by decide +kernel
theorem dX4_node_82 : decode cX4_node 82 = .ok (.ifCond .eq 7, 3) := by decide +kernel
theorem dX4_node_85 : decode cX4_node 85 = .ok (.iconst 1, 1) := by decide +kernel
theorem dX4_node_86 : decode cX4_node 86 = .ok (.goto 4, 3) := by decide +kernel
theorem dX4_node_89 : decode cX4_node 89 = .ok (.iconst 0, 1) := by decide +kernel
theorem dX4_node_90 : decode cX4_node 90 = .ok (.ireturn, 1) := by decide +kernel
theorem dX4_node_91 : decode cX4_node 91 = .ok (.iload 5, 2) := by decide +kernel
theorem dX4_node_93 : decode cX4_node 93 = .ok (.ifCond .eq 16, 3) := by decide +kernel
theorem dX4_node_96 : decode cX4_node 96 = .ok (.aload_n 0, 1) := by decide +kernel
theorem dX4_node_97 : decode cX4_node 97 = .ok (.getfield 19, 3) := by decide +kernel
theorem dX4_node_100 : decode cX4_node 100 = .ok (.getfield 116, 3) := by decide +kernel
theorem dX4_node_103 : decode cX4_node 103 = .ok (.iload 4, 2) := by decide +kernel
theorem dX4_node_105 : decode cX4_node 105 = .ok (.iaload, 1) := by decide +kernel
theorem dX4_node_106 : decode cX4_node 106 = .ok (.goto 6, 3) := by decide +kernel
theorem dX4_node_109 : decode cX4_node 109 = .ok (.sipush (-10002), 3) := by decide +kernel
theorem dX4_node_112 : decode cX4_node 112 = .ok (.ireturn, 1) := by decide +kernel
theorem dX4_node_113 : decode cX4_node 113 = .ok (.iload 5, 2) := by decide +kernel
theorem dX4_node_115 : decode cX4_node 115 = .ok (.ifCond .eq 16, 3) := by decide +kernel
theorem dX4_node_118 : decode cX4_node 118 = .ok (.aload_n 0, 1) := by decide +kernel
theorem dX4_node_119 : decode cX4_node 119 = .ok (.getfield 19, 3) := by decide +kernel
theorem dX4_node_122 : decode cX4_node 122 = .ok (.getfield 119, 3) := by decide +kernel
theorem dX4_node_125 : decode cX4_node 125 = .ok (.iload 4, 2) := by decide +kernel
theorem dX4_node_127 : decode cX4_node 127 = .ok (.iaload, 1) := by decide +kernel
theorem dX4_node_128 : decode cX4_node 128 = .ok (.goto 6, 3) := by decide +kernel
theorem dX4_node_131 : decode cX4_node 131 = .ok (.sipush (-10002), 3) := by decide +kernel
theorem dX4_node_134 : decode cX4_node 134 = .ok (.ireturn, 1) := by decide +kernel
theorem dX4_node_135 : decode cX4_node 135 = .ok (.iload 5, 2) := by decide +kernel
theorem dX4_node_137 : decode cX4_node 137 = .ok (.ifCond .eq 16, 3) := by decide +kernel
theorem dX4_node_140 : decode cX4_node 140 = .ok (.aload_n 0, 1) := by decide +kernel
theorem dX4_node_141 : decode cX4_node 141 = .ok (.getfield 19, 3) := by decide +kernel
theorem dX4_node_144 : decode cX4_node 144 = .ok (.getfield 122, 3) := by decide +kernel
theorem dX4_node_147 : decode cX4_node 147 = .ok (.iload 4, 2) := by decide +kernel
theorem dX4_node_149 : decode cX4_node 149 = .ok (.iaload, 1) := by decide +kernel
theorem dX4_node_150 : decode cX4_node 150 = .ok (.goto 6, 3) := by decide +kernel
theorem dX4_node_153 : decode cX4_node 153 = .ok (.sipush (-10002), 3) := by decide +kernel
theorem dX4_node_156 : decode cX4_node 156 = .ok (.ireturn, 1) := by decide +kernel
theorem dX4_node_157 : decode cX4_node 157 = .ok (.iload 5, 2) := by decide +kernel
theorem dX4_node_159 : decode cX4_node 159 = .ok (.ifCond .eq 9, 3) := by decide +kernel
theorem dX4_node_162 : decode cX4_node 162 = .ok (.sipush (-10002), 3) := by decide +kernel
theorem dX4_node_165 : decode cX4_node 165 = .ok (.goto 13, 3) := by decide +kernel
theorem dX4_node_168 : decode cX4_node 168 = .ok (.aload_n 0, 1) := by decide +kernel
theorem dX4_node_169 : decode cX4_node 169 = .ok (.getfield 19, 3) := by decide +kernel
theorem dX4_node_172 : decode cX4_node 172 = .ok (.getfield 125, 3) := by decide +kernel
theorem dX4_node_175 : decode cX4_node 175 = .ok (.iload 4, 2) := by decide +kernel
theorem dX4_node_177 : decode cX4_node 177 = .ok (.iaload, 1) := by decide +kernel
theorem dX4_node_178 : decode cX4_node 178 = .ok (.ireturn, 1) := by decide +kernel
theorem dX4_node_179 : decode cX4_node 179 = .ok (.aload_n 0, 1) := by decide +kernel
theorem dX4_node_180 : decode cX4_node 180 = .ok (.getfield 19, 3) := by decide +kernel
theorem dX4_node_183 : decode cX4_node 183 = .ok (.getfield 128, 3) := by decide +kernel
theorem dX4_node_186 : decode cX4_node 186 = .ok (.iload 4, 2) := by decide +kernel
theorem dX4_node_188 : decode cX4_node 188 = .ok (.iaload, 1) := by decide +kernel
theorem dX4_node_189 : decode cX4_node 189 = .ok (.ireturn, 1) := by decide +kernel
theorem dX4_node_190 : decode cX4_node 190 = .ok (.sipush (-10002), 3) := by decide +kernel
theorem dX4_node_193 : decode cX4_node 193 = .ok (.ireturn, 1) := by decide +kernel
set_option maxRecDepth 20000 in
theorem ggX4_gain_X1_find : GoodIn wsX4_gain wsX1_find := goodIn_ca (goodIn_ca (goodIn_r _ [11, 12, 13, 14, 15, 10, 16, 17, 22, 23, 24, 25, 26, 27, 28, 29, 30] (by decide +kernel) (by decide +kernel)) (goodIn_sub (fun _ h => List.mem_cons_of_mem _ (List.mem_append_left _ (List.mem_append_right _ h))) (by decide +kernel))) (goodIn_sub (fun _ h => List.mem_cons_of_mem _ (List.mem_append_right _ h)) (by decide +kernel))
set_option maxRecDepth 20000 in
theorem gX4_gain_X1_find : GoodIn wsX4_gain (wsV RX4 110 RX1 yX1_find wsX1_find) := goodIn_app (goodIn_of _ (by decide +kernel)) ggX4_gain_X1_find
theorem dX4_gain_0 : decode cX4_gain 0 = .ok (.aload_n 0, 1) := by decide +kernel
theorem dX4_gain_1 : decode cX4_gain 1 = .ok (.getfield 19, 3) := by decide +kernel
theorem dX4_gain_4 : decode cX4_gain 4 = .ok (.iload_n 1, 1) := by decide +kernel
theorem dX4_gain_5 : decode cX4_gain 5 = .ok (.iload_n 2, 1) := by decide +kernel
theorem dX4_gain_6 : decode cX4_gain 6 = .ok (.invokevirtual 110, 3) := by decide +kernel
theorem dX4_gain_9 : decode cX4_gain 9 = .ok (.istore 4, 2) := by decide +kernel
theorem dX4_gain_11 : decode cX4_gain 11 = .ok (.iload 4, 2) := by decide +kernel
theorem dX4_gain_13 : decode cX4_gain 13 = .ok (.iconst (-1), 1) := by decide +kernel
theorem dX4_gain_14 : decode cX4_gain 14 = .ok (.if_icmp .eq 17, 3) := by decide +kernel
theorem dX4_gain_17 : decode cX4_gain 17 = .ok (.aload_n 0, 1) := by decide +kernel
theorem dX4_gain_18 : decode cX4_gain 18 = .ok (.getfield 19, 3) := by decide +kernel
theorem dX4_gain_21 : decode cX4_gain 21 = .ok (.getfield 113, 3) := by decide +kernel
theorem dX4_gain_24 : decode cX4_gain 24 = .ok (.iload 4, 2) := by decide +kernel
theorem dX4_gain_26 : decode cX4_gain 26 = .ok (.iaload, 1) := by decide +kernel
theorem dX4_gain_27 : decode cX4_gain 27 = .ok (.iconst 2, 1) := by decide +kernel
theorem dX4_gain_28 : decode cX4_gain 28 = .ok (.if_icmp .eq 7, 3) := by decide +kernel
theorem dX4_gain_31 : decode cX4_gain 31 = .ok (.ldc2_w 131, 3) := by decide +kernel
theorem dX4_gain_34 : decode cX4_gain 34 = .ok (.lreturn, 1) := by decide +kernel
theorem dX4_gain_35 : decode cX4_gain 35 = .ok (.iload_n 3, 1) := by decide +kernel
theorem dX4_gain_36 : decode cX4_gain 36 = .ok (.lookupswitch 50 #[(0, 28), (1, 39)], 28) := by decide +kernel
theorem dX4_gain_64 : decode cX4_gain 64 = .ok (.aload_n 0, 1) := by decide +kernel
theorem dX4_gain_65 : decode cX4_gain 65 = .ok (.getfield 19, 3) := by decide +kernel
theorem dX4_gain_68 : decode cX4_gain 68 = .ok (.getfield 133, 3) := by decide +kernel
theorem dX4_gain_71 : decode cX4_gain 71 = .ok (.iload 4, 2) := by decide +kernel
theorem dX4_gain_73 : decode cX4_gain 73 = .ok (.laload, 1) := by decide +kernel
theorem dX4_gain_74 : decode cX4_gain 74 = .ok (.lreturn, 1) := by decide +kernel
theorem dX4_gain_75 : decode cX4_gain 75 = .ok (.aload_n 0, 1) := by decide +kernel
theorem dX4_gain_76 : decode cX4_gain 76 = .ok (.getfield 19, 3) := by decide +kernel
theorem dX4_gain_79 : decode cX4_gain 79 = .ok (.getfield 137, 3) := by decide +kernel
theorem dX4_gain_82 : decode cX4_gain 82 = .ok (.iload 4, 2) := by decide +kernel
theorem dX4_gain_84 : decode cX4_gain 84 = .ok (.laload, 1) := by decide +kernel
theorem dX4_gain_85 : decode cX4_gain 85 = .ok (.lreturn, 1) := by decide +kernel
theorem dX4_gain_86 : decode cX4_gain 86 = .ok (.ldc2_w 140, 3) := by decide +kernel
theorem dX4_gain_89 : decode cX4_gain 89 = .ok (.lreturn, 1) := by decide +kernel
set_option maxRecDepth 20000 in
theorem ggX4_score_X3_rowOf : GoodIn wsX4_score wsX3_rowOf := goodIn_ca (goodIn_r _ [8, 9, 10, 11, 7, 12, 13, 42, 43, 44, 45, 46] (by decide +kernel) (by decide +kernel)) (goodIn_sub (fun _ h => List.mem_cons_of_mem _ (List.mem_append_left _ (List.mem_append_right _ h))) (by decide +kernel))
set_option maxRecDepth 20000 in
theorem gX4_score_X3_rowOf : GoodIn wsX4_score (wsV RX4 58 RX3 yX3_rowOf wsX3_rowOf) := goodIn_app (goodIn_of _ (by decide +kernel)) ggX4_score_X3_rowOf
set_option maxRecDepth 20000 in
theorem ggX4_score_X1_sumFor : GoodIn wsX4_score wsX1_sumFor := goodIn_ca (goodIn_ca (goodIn_r _ [18, 19, 20, 21, 22, 17, 23, 24, 25, 26, 27, 28, 29, 30, 31, 7, 32, 33, 34, 35, 36, 37, 47, 48, 49, 50, 51, 52, 53, 54, 55, 42, 43, 44, 45, 46] (by decide +kernel) (by decide +kernel)) (goodIn_sub (fun _ h => List.mem_cons_of_mem _ (List.mem_append_left _ (List.mem_append_right _ h))) (by decide +kernel))) (goodIn_sub (fun _ h => List.mem_cons_of_mem _ (List.mem_append_right _ h)) (by decide +kernel))
set_option maxRecDepth 20000 in
theorem gX4_score_X1_sumFor : GoodIn wsX4_score (wsV RX4 142 RX1 yX1_sumFor wsX1_sumFor) := goodIn_app (goodIn_of _ (by decide +kernel)) ggX4_score_X1_sumFor
theorem dX4_score_0 : decode cX4_score 0 = .ok (.aload_n 0, 1) := by decide +kernel
theorem dX4_score_1 : decode cX4_score 1 = .ok (.getfield 12, 3) := by decide +kernel
theorem dX4_score_4 : decode cX4_score 4 = .ok (.iload_n 1, 1) := by decide +kernel
theorem dX4_score_5 : decode cX4_score 5 = .ok (.invokevirtual 58, 3) := by decide +kernel
theorem dX4_score_8 : decode cX4_score 8 = .ok (.istore_n 2, 1) := by decide +kernel
theorem dX4_score_9 : decode cX4_score 9 = .ok (.iload_n 2, 1) := by decide +kernel
theorem dX4_score_10 : decode cX4_score 10 = .ok (.iconst (-1), 1) := by decide +kernel
theorem dX4_score_11 : decode cX4_score 11 = .ok (.if_icmp .ne 7, 3) := by decide +kernel
theorem dX4_score_14 : decode cX4_score 14 = .ok (.ldc2_w 131, 3) := by decide +kernel
theorem dX4_score_17 : decode cX4_score 17 = .ok (.lreturn, 1) := by decide +kernel
theorem dX4_score_18 : decode cX4_score 18 = .ok (.aload_n 0, 1) := by decide +kernel
theorem dX4_score_19 : decode cX4_score 19 = .ok (.getfield 19, 3) := by decide +kernel
theorem dX4_score_22 : decode cX4_score 22 = .ok (.aload_n 0, 1) := by decide +kernel
theorem dX4_score_23 : decode cX4_score 23 = .ok (.getfield 12, 3) := by decide +kernel
theorem dX4_score_26 : decode cX4_score 26 = .ok (.iload_n 2, 1) := by decide +kernel
theorem dX4_score_27 : decode cX4_score 27 = .ok (.invokevirtual 142, 3) := by decide +kernel
theorem dX4_score_30 : decode cX4_score 30 = .ok (.lreturn, 1) := by decide +kernel
set_option maxRecDepth 20000 in
theorem ggX4_value_X3_rowOf : GoodIn wsX4_value wsX3_rowOf := goodIn_ca (goodIn_r _ [7, 8, 9, 10, 6, 11, 12, 41, 42, 43, 44, 45] (by decide +kernel) (by decide +kernel)) (goodIn_sub (fun _ h => List.mem_cons_of_mem _ (List.mem_append_left _ (List.mem_append_right _ h))) (by decide +kernel))
set_option maxRecDepth 20000 in
theorem gX4_value_X3_rowOf : GoodIn wsX4_value (wsV RX4 58 RX3 yX3_rowOf wsX3_rowOf) := goodIn_app (goodIn_of _ (by decide +kernel)) ggX4_value_X3_rowOf
set_option maxRecDepth 20000 in
theorem ggX4_value_X1_has : GoodIn wsX4_value wsX1_has := goodIn_r _ [17, 18, 46, 47, 48, 49, 50, 51, 52, 53, 54] (by decide +kernel) (by decide +kernel)
set_option maxRecDepth 20000 in
theorem gX4_value_X1_has : GoodIn wsX4_value (wsV RX4 146 RX1 yX1_has wsX1_has) := goodIn_app (goodIn_of _ (by decide +kernel)) ggX4_value_X1_has
set_option maxRecDepth 20000 in
theorem ggX4_value_X1_valueFor : GoodIn wsX4_value wsX1_valueFor := goodIn_ca (goodIn_ca (goodIn_r _ [22, 23, 24, 25, 26, 27, 28, 29, 30, 6, 31, 32, 33, 34, 35, 36, 46, 47, 48, 49, 50, 51, 52, 53, 54, 41, 42, 43, 44, 45] (by decide +kernel) (by decide +kernel)) (goodIn_sub (fun _ h => List.mem_cons_of_mem _ (List.mem_append_right _ h)) (by decide +kernel))) (goodIn_sub (fun _ h => List.mem_cons_of_mem _ (List.mem_append_left _ (List.mem_append_right _ h))) (by decide +kernel))
set_option maxRecDepth 20000 in
theorem gX4_value_X1_valueFor : GoodIn wsX4_value (wsV RX4 147 RX1 yX1_valueFor wsX1_valueFor) := goodIn_app (goodIn_of _ (by decide +kernel)) ggX4_value_X1_valueFor
theorem dX4_value_0 : decode cX4_value 0 = .ok (.aload_n 0, 1) := by decide +kernel
theorem dX4_value_1 : decode cX4_value 1 = .ok (.getfield 12, 3) := by decide +kernel
theorem dX4_value_4 : decode cX4_value 4 = .ok (.iload_n 2, 1) := by decide +kernel
theorem dX4_value_5 : decode cX4_value 5 = .ok (.invokevirtual 58, 3) := by decide +kernel
theorem dX4_value_8 : decode cX4_value 8 = .ok (.istore_n 3, 1) := by decide +kernel
theorem dX4_value_9 : decode cX4_value 9 = .ok (.aload_n 0, 1) := by decide +kernel
theorem dX4_value_10 : decode cX4_value 10 = .ok (.getfield 19, 3) := by decide +kernel
theorem dX4_value_13 : decode cX4_value 13 = .ok (.iload_n 1, 1) := by decide +kernel
theorem dX4_value_14 : decode cX4_value 14 = .ok (.invokevirtual 146, 3) := by decide +kernel
theorem dX4_value_17 : decode cX4_value 17 = .ok (.ifCond .eq 8, 3) := by decide +kernel
theorem dX4_value_20 : decode cX4_value 20 = .ok (.iload_n 3, 1) := by decide +kernel
theorem dX4_value_21 : decode cX4_value 21 = .ok (.iconst (-1), 1) := by decide +kernel
theorem dX4_value_22 : decode cX4_value 22 = .ok (.if_icmp .ne 7, 3) := by decide +kernel
theorem dX4_value_25 : decode cX4_value 25 = .ok (.sipush (-10001), 3) := by decide +kernel
theorem dX4_value_28 : decode cX4_value 28 = .ok (.ireturn, 1) := by decide +kernel
theorem dX4_value_29 : decode cX4_value 29 = .ok (.aload_n 0, 1) := by decide +kernel
theorem dX4_value_30 : decode cX4_value 30 = .ok (.getfield 19, 3) := by decide +kernel
theorem dX4_value_33 : decode cX4_value 33 = .ok (.iload_n 1, 1) := by decide +kernel
theorem dX4_value_34 : decode cX4_value 34 = .ok (.aload_n 0, 1) := by decide +kernel
theorem dX4_value_35 : decode cX4_value 35 = .ok (.getfield 12, 3) := by decide +kernel
theorem dX4_value_38 : decode cX4_value 38 = .ok (.iload_n 3, 1) := by decide +kernel
theorem dX4_value_39 : decode cX4_value 39 = .ok (.invokevirtual 147, 3) := by decide +kernel
theorem dX4_value_42 : decode cX4_value 42 = .ok (.ireturn, 1) := by decide +kernel
set_option maxRecDepth 20000 in
theorem ggX4_push_X3_has : GoodIn wsX4_push wsX3_has := goodIn_r _ [8, 9, 57, 58, 59, 60, 61] (by decide +kernel) (by decide +kernel)
set_option maxRecDepth 20000 in
theorem gX4_push_X3_has : GoodIn wsX4_push (wsV RX4 52 RX3 yX3_has wsX3_has) := goodIn_app (goodIn_of _ (by decide +kernel)) ggX4_push_X3_has
set_option maxRecDepth 20000 in
theorem ggX4_push_X3_takeScores : GoodIn wsX4_push wsX3_takeScores := goodIn_ca (goodIn_ca (goodIn_r _ [13, 9, 14, 15, 16, 17, 18, 19, 20, 21, 22, 23, 24, 25, 26, 27, 28, 29, 30, 31, 32, 7, 33, 34, 35, 36, 37, 38, 57, 58, 59, 60, 61, 62, 63, 64, 65, 66, 67, 68, 69, 70] (by decide +kernel) (by decide +kernel)) (goodIn_sub (fun _ h => List.mem_cons_of_mem _ (List.mem_append_left _ (List.mem_append_right _ h))) (by decide +kernel))) (goodIn_sub (fun _ h => List.mem_cons_of_mem _ (List.mem_append_right _ h)) (by decide +kernel))
set_option maxRecDepth 20000 in
theorem gX4_push_X3_takeScores : GoodIn wsX4_push (wsV RX4 95 RX3 yX3_takeScores wsX3_takeScores) := goodIn_app (goodIn_of _ (by decide +kernel)) ggX4_push_X3_takeScores
set_option maxRecDepth 20000 in
theorem ggX4_push_X3_pushOf : GoodIn wsX4_push wsX3_pushOf := goodIn_ca (goodIn_ca (goodIn_r _ [42, 9, 43, 44, 45, 7, 46, 14, 47, 48, 49, 50, 51, 52, 57, 58, 59, 60, 61] (by decide +kernel) (by decide +kernel)) (goodIn_sub (fun _ h => List.mem_cons_of_mem _ (List.mem_append_left _ (List.mem_append_right _ h))) (by decide +kernel))) (goodIn_sub (fun _ h => List.mem_cons_of_mem _ (List.mem_append_right _ h)) (by decide +kernel))
set_option maxRecDepth 20000 in
theorem gX4_push_X3_pushOf : GoodIn wsX4_push (wsV RX4 151 RX3 yX3_pushOf wsX3_pushOf) := goodIn_app (goodIn_of _ (by decide +kernel)) ggX4_push_X3_pushOf
theorem dX4_push_0 : decode cX4_push 0 = .ok (.aload_n 0, 1) := by decide +kernel
theorem dX4_push_1 : decode cX4_push 1 = .ok (.getfield 12, 3) := by decide +kernel
theorem dX4_push_4 : decode cX4_push 4 = .ok (.iload_n 1, 1) := by decide +kernel
theorem dX4_push_5 : decode cX4_push 5 = .ok (.invokevirtual 52, 3) := by decide +kernel
theorem dX4_push_8 : decode cX4_push 8 = .ok (.ifCond .ne 7, 3) := by decide +kernel
theorem dX4_push_11 : decode cX4_push 11 = .ok (.sipush (-10001), 3) := by decide +kernel
theorem dX4_push_14 : decode cX4_push 14 = .ok (.ireturn, 1) := by decide +kernel
theorem dX4_push_15 : decode cX4_push 15 = .ok (.aload_n 0, 1) := by decide +kernel
theorem dX4_push_16 : decode cX4_push 16 = .ok (.getfield 12, 3) := by decide +kernel
theorem dX4_push_19 : decode cX4_push 19 = .ok (.aload_n 0, 1) := by decide +kernel
theorem dX4_push_20 : decode cX4_push 20 = .ok (.getfield 19, 3) := by decide +kernel
theorem dX4_push_23 : decode cX4_push 23 = .ok (.invokevirtual 95, 3) := by decide +kernel
theorem dX4_push_26 : decode cX4_push 26 = .ok (.aload_n 0, 1) := by decide +kernel
theorem dX4_push_27 : decode cX4_push 27 = .ok (.getfield 12, 3) := by decide +kernel
theorem dX4_push_30 : decode cX4_push 30 = .ok (.iload_n 1, 1) := by decide +kernel
theorem dX4_push_31 : decode cX4_push 31 = .ok (.aload_n 0, 1) := by decide +kernel
theorem dX4_push_32 : decode cX4_push 32 = .ok (.getfield 30, 3) := by decide +kernel
theorem dX4_push_35 : decode cX4_push 35 = .ok (.iconst 0, 1) := by decide +kernel
theorem dX4_push_36 : decode cX4_push 36 = .ok (.iaload, 1) := by decide +kernel
theorem dX4_push_37 : decode cX4_push 37 = .ok (.invokevirtual 151, 3) := by decide +kernel
theorem dX4_push_40 : decode cX4_push 40 = .ok (.ireturn, 1) := by decide +kernel
set_option maxRecDepth 20000 in
theorem ggX4_ranked_X4_isList : GoodIn wsX4_ranked wsX4_isList := goodIn_r _ [8] (by decide +kernel) (by decide +kernel)
set_option maxRecDepth 20000 in
theorem gX4_ranked_X4_isList : GoodIn wsX4_ranked (va_wsS RX4 37 yX4_isList wsX4_isList) := goodIn_app (goodIn_of _ (by decide +kernel)) ggX4_ranked_X4_isList
set_option maxRecDepth 20000 in
theorem ggX4_ranked_X3_takeScores : GoodIn wsX4_ranked wsX3_takeScores := goodIn_ca (goodIn_ca (goodIn_r _ [13, 14, 15, 16, 17, 18, 19, 20, 21, 22, 23, 24, 25, 26, 27, 28, 29, 30, 31, 32, 33, 12, 34, 35, 36, 37, 38, 39, 53, 54, 55, 56, 57, 58, 59, 60, 61, 62, 63, 64, 65, 66] (by decide +kernel) (by decide +kernel)) (goodIn_sub (fun _ h => List.mem_cons_of_mem _ (List.mem_append_left _ (List.mem_append_right _ h))) (by decide +kernel))) (goodIn_sub (fun _ h => List.mem_cons_of_mem _ (List.mem_append_right _ h)) (by decide +kernel))
set_option maxRecDepth 20000 in
theorem gX4_ranked_X3_takeScores : GoodIn wsX4_ranked (wsV RX4 95 RX3 yX3_takeScores wsX3_takeScores) := goodIn_app (goodIn_of _ (by decide +kernel)) ggX4_ranked_X3_takeScores
set_option maxRecDepth 20000 in
theorem ggX4_ranked_X3_countAhead : GoodIn wsX4_ranked wsX3_countAhead := goodIn_ca (goodIn_ca (goodIn_r _ [43, 14, 44, 45, 46, 47, 12, 48, 15, 53, 54, 55, 56, 57] (by decide +kernel) (by decide +kernel)) (goodIn_sub (fun _ h => List.mem_cons_of_mem _ (List.mem_append_right _ h)) (by decide +kernel))) (goodIn_sub (fun _ h => List.mem_cons_of_mem _ (List.mem_append_left _ (List.mem_append_right _ h))) (by decide +kernel))
set_option maxRecDepth 20000 in
theorem gX4_ranked_X3_countAhead : GoodIn wsX4_ranked (wsV RX4 157 RX3 yX3_countAhead wsX3_countAhead) := goodIn_app (goodIn_of _ (by decide +kernel)) ggX4_ranked_X3_countAhead
theorem dX4_ranked_0 : decode cX4_ranked 0 = .ok (.iload_n 1, 1) := by decide +kernel
theorem dX4_ranked_1 : decode cX4_ranked 1 = .ok (.invokestatic 37, 3) := by decide +kernel
theorem dX4_ranked_4 : decode cX4_ranked 4 = .ok (.ifCond .ne 7, 3) := by decide +kernel
theorem dX4_ranked_7 : decode cX4_ranked 7 = .ok (.sipush (-10002), 3) := by decide +kernel
theorem dX4_ranked_10 : decode cX4_ranked 10 = .ok (.ireturn, 1) := by decide +kernel
theorem dX4_ranked_11 : decode cX4_ranked 11 = .ok (.aload_n 0, 1) := by decide +kernel
theorem dX4_ranked_12 : decode cX4_ranked 12 = .ok (.getfield 12, 3) := by decide +kernel
theorem dX4_ranked_15 : decode cX4_ranked 15 = .ok (.aload_n 0, 1) := by decide +kernel
theorem dX4_ranked_16 : decode cX4_ranked 16 = .ok (.getfield 19, 3) := by decide +kernel
theorem dX4_ranked_19 : decode cX4_ranked 19 = .ok (.invokevirtual 95, 3) := by decide +kernel
theorem dX4_ranked_22 : decode cX4_ranked 22 = .ok (.iconst 0, 1) := by decide +kernel
theorem dX4_ranked_23 : decode cX4_ranked 23 = .ok (.istore_n 3, 1) := by decide +kernel
theorem dX4_ranked_24 : decode cX4_ranked 24 = .ok (.iload_n 3, 1) := by decide +kernel
theorem dX4_ranked_25 : decode cX4_ranked 25 = .ok (.aload_n 0, 1) := by decide +kernel
theorem dX4_ranked_26 : decode cX4_ranked 26 = .ok (.getfield 12, 3) := by decide +kernel
theorem dX4_ranked_29 : decode cX4_ranked 29 = .ok (.getfield 44, 3) := by decide +kernel
theorem dX4_ranked_32 : decode cX4_ranked 32 = .ok (.if_icmp .ge 36, 3) := by decide +kernel
theorem dX4_ranked_35 : decode cX4_ranked 35 = .ok (.aload_n 0, 1) := by decide +kernel
theorem dX4_ranked_36 : decode cX4_ranked 36 = .ok (.getfield 12, 3) := by decide +kernel
theorem dX4_ranked_39 : decode cX4_ranked 39 = .ok (.getfield 154, 3) := by decide +kernel
theorem dX4_ranked_42 : decode cX4_ranked 42 = .ok (.iload_n 3, 1) := by decide +kernel
theorem dX4_ranked_43 : decode cX4_ranked 43 = .ok (.iaload, 1) := by decide +kernel
theorem dX4_ranked_44 : decode cX4_ranked 44 = .ok (.iload_n 1, 1) := by decide +kernel
theorem dX4_ranked_45 : decode cX4_ranked 45 = .ok (.if_icmp .ne 17, 3) := by decide +kernel
theorem dX4_ranked_48 : decode cX4_ranked 48 = .ok (.aload_n 0, 1) := by decide +kernel
theorem dX4_ranked_49 : decode cX4_ranked 49 = .ok (.getfield 12, 3) := by decide +kernel
theorem dX4_ranked_52 : decode cX4_ranked 52 = .ok (.iload_n 3, 1) := by decide +kernel
theorem dX4_ranked_53 : decode cX4_ranked 53 = .ok (.invokevirtual 157, 3) := by decide +kernel
theorem dX4_ranked_56 : decode cX4_ranked 56 = .ok (.iload_n 2, 1) := by decide +kernel
theorem dX4_ranked_57 : decode cX4_ranked 57 = .ok (.if_icmp .ne 5, 3) := by decide +kernel
theorem dX4_ranked_60 : decode cX4_ranked 60 = .ok (.iload_n 3, 1) := by decide +kernel
theorem dX4_ranked_61 : decode cX4_ranked 61 = .ok (.ireturn, 1) := by decide +kernel
theorem dX4_ranked_62 : decode cX4_ranked 62 = .ok (.iinc 3 1, 3) := by decide +kernel
theorem dX4_ranked_65 : decode cX4_ranked 65 = .ok (.goto (-41), 3) := by decide +kernel
theorem dX4_ranked_68 : decode cX4_ranked 68 = .ok (.iconst (-1), 1) := by decide +kernel
theorem dX4_ranked_69 : decode cX4_ranked 69 = .ok (.ireturn, 1) := by decide +kernel
set_option maxRecDepth 20000 in
theorem ggX4_pairs_X4_isListOrAll : GoodIn wsX4_pairs wsX4_isListOrAll := goodIn_r _ [6, 7, 8, 5, 9] (by decide +kernel) (by decide +kernel)
set_option maxRecDepth 20000 in
theorem gX4_pairs_X4_isListOrAll : GoodIn wsX4_pairs (va_wsS RX4 160 yX4_isListOrAll wsX4_isListOrAll) := goodIn_app (goodIn_of _ (by decide +kernel)) ggX4_pairs_X4_isListOrAll
set_option maxRecDepth 20000 in
theorem ggX4_pairs_X3_takeScores : GoodIn wsX4_pairs wsX3_takeScores := goodIn_ca (goodIn_ca (goodIn_r _ [14, 15, 16, 17, 18, 19, 20, 21, 22, 23, 24, 25, 26, 27, 28, 29, 30, 31, 32, 33, 34, 13, 35, 36, 37, 38, 39, 40, 55, 56, 57, 58, 59, 60, 61, 62, 63, 64, 65, 66, 67, 68] (by decide +kernel) (by decide +kernel)) (goodIn_sub (fun _ h => List.mem_cons_of_mem _ (List.mem_append_left _ (List.mem_append_right _ h))) (by decide +kernel))) (goodIn_sub (fun _ h => List.mem_cons_of_mem _ (List.mem_append_right _ h)) (by decide +kernel))
set_option maxRecDepth 20000 in
theorem gX4_pairs_X3_takeScores : GoodIn wsX4_pairs (wsV RX4 95 RX3 yX3_takeScores wsX3_takeScores) := goodIn_app (goodIn_of _ (by decide +kernel)) ggX4_pairs_X3_takeScores
set_option maxRecDepth 20000 in
theorem ggX4_pairs_X3_countPairs : GoodIn wsX4_pairs wsX3_countPairs := goodIn_ca (goodIn_ca (goodIn_r _ [44, 15, 45, 16, 46, 47, 48, 13, 49, 50, 55, 56, 57, 58, 59] (by decide +kernel) (by decide +kernel)) (goodIn_sub (fun _ h => List.mem_cons_of_mem _ (List.mem_append_right _ h)) (by decide +kernel))) (goodIn_sub (fun _ h => List.mem_cons_of_mem _ (List.mem_append_left _ (List.mem_append_right _ h))) (by decide +kernel))
set_option maxRecDepth 20000 in
theorem gX4_pairs_X3_countPairs : GoodIn wsX4_pairs (wsV RX4 163 RX3 yX3_countPairs wsX3_countPairs) := goodIn_app (goodIn_of _ (by decide +kernel)) ggX4_pairs_X3_countPairs
theorem dX4_pairs_0 : decode cX4_pairs 0 = .ok (.iload_n 1, 1) := by decide +kernel
theorem dX4_pairs_1 : decode cX4_pairs 1 = .ok (.invokestatic 160, 3) := by decide +kernel
theorem dX4_pairs_4 : decode cX4_pairs 4 = .ok (.ifCond .eq 12, 3) := by decide +kernel
theorem dX4_pairs_7 : decode cX4_pairs 7 = .ok (.iload_n 2, 1) := by decide +kernel
theorem dX4_pairs_8 : decode cX4_pairs 8 = .ok (.ifCond .lt 8, 3) := by decide +kernel
theorem dX4_pairs_11 : decode cX4_pairs 11 = .ok (.iload_n 2, 1) := by decide +kernel
theorem dX4_pairs_12 : decode cX4_pairs 12 = .ok (.iconst 1, 1) := by decide +kernel
theorem dX4_pairs_13 : decode cX4_pairs 13 = .ok (.if_icmp .le 7, 3) := by decide +kernel
theorem dX4_pairs_16 : decode cX4_pairs 16 = .ok (.sipush (-10002), 3) := by decide +kernel
theorem dX4_pairs_19 : decode cX4_pairs 19 = .ok (.ireturn, 1) := by decide +kernel
theorem dX4_pairs_20 : decode cX4_pairs 20 = .ok (.aload_n 0, 1) := by decide +kernel
theorem dX4_pairs_21 : decode cX4_pairs 21 = .ok (.getfield 12, 3) := by decide +kernel
theorem dX4_pairs_24 : decode cX4_pairs 24 = .ok (.aload_n 0, 1) := by decide +kernel
theorem dX4_pairs_25 : decode cX4_pairs 25 = .ok (.getfield 19, 3) := by decide +kernel
theorem dX4_pairs_28 : decode cX4_pairs 28 = .ok (.invokevirtual 95, 3) := by decide +kernel
theorem dX4_pairs_31 : decode cX4_pairs 31 = .ok (.aload_n 0, 1) := by decide +kernel
theorem dX4_pairs_32 : decode cX4_pairs 32 = .ok (.getfield 12, 3) := by decide +kernel
theorem dX4_pairs_35 : decode cX4_pairs 35 = .ok (.iload_n 1, 1) := by decide +kernel
theorem dX4_pairs_36 : decode cX4_pairs 36 = .ok (.iload_n 2, 1) := by decide +kernel
theorem dX4_pairs_37 : decode cX4_pairs 37 = .ok (.iconst 1, 1) := by decide +kernel
theorem dX4_pairs_38 : decode cX4_pairs 38 = .ok (.if_icmp .ne 7, 3) := by decide +kernel
theorem dX4_pairs_41 : decode cX4_pairs 41 = .ok (.iconst 1, 1) := by decide +kernel
theorem dX4_pairs_42 : decode cX4_pairs 42 = .ok (.goto 4, 3) := by decide +kernel
theorem dX4_pairs_45 : decode cX4_pairs 45 = .ok (.iconst 0, 1) := by decide +kernel
theorem dX4_pairs_46 : decode cX4_pairs 46 = .ok (.invokevirtual 163, 3) := by decide +kernel
theorem dX4_pairs_49 : decode cX4_pairs 49 = .ok (.ireturn, 1) := by decide +kernel
set_option maxRecDepth 20000 in
theorem ggX4_share_X4_isListOrAll : GoodIn wsX4_share wsX4_isListOrAll := goodIn_r _ [8, 9, 10, 7, 11] (by decide +kernel) (by decide +kernel)
set_option maxRecDepth 20000 in
theorem gX4_share_X4_isListOrAll : GoodIn wsX4_share (va_wsS RX4 160 yX4_isListOrAll wsX4_isListOrAll) := goodIn_app (goodIn_of _ (by decide +kernel)) ggX4_share_X4_isListOrAll
set_option maxRecDepth 20000 in
theorem ggX4_share_X3_takeScores : GoodIn wsX4_share wsX3_takeScores := goodIn_ca (goodIn_ca (goodIn_r _ [16, 17, 18, 19, 20, 21, 22, 23, 24, 25, 26, 27, 28, 29, 30, 31, 32, 33, 34, 35, 36, 15, 37, 38, 39, 40, 41, 42, 57, 58, 59, 60, 61, 62, 63, 64, 65, 66, 67, 68, 69, 70] (by decide +kernel) (by decide +kernel)) (goodIn_sub (fun _ h => List.mem_cons_of_mem _ (List.mem_append_left _ (List.mem_append_left _ (List.mem_append_left _ (List.mem_append_right _ h))))) (by decide +kernel))) (goodIn_sub (fun _ h => List.mem_cons_of_mem _ (List.mem_append_right _ h)) (by decide +kernel))
set_option maxRecDepth 20000 in
theorem gX4_share_X3_takeScores : GoodIn wsX4_share (wsV RX4 95 RX3 yX3_takeScores wsX3_takeScores) := goodIn_app (goodIn_of _ (by decide +kernel)) ggX4_share_X3_takeScores
set_option maxRecDepth 20000 in
theorem ggX4_share_X3_countPairs : GoodIn wsX4_share wsX3_countPairs := goodIn_ca (goodIn_ca (goodIn_r _ [46, 17, 47, 18, 48, 49, 50, 15, 51, 52, 57, 58, 59, 60, 61] (by decide +kernel) (by decide +kernel)) (goodIn_sub (fun _ h => List.mem_cons_of_mem _ (List.mem_append_right _ h)) (by decide +kernel))) (goodIn_sub (fun _ h => List.mem_cons_of_mem _ (List.mem_append_left _ (List.mem_append_left _ (List.mem_append_left _ (List.mem_append_right _ h))))) (by decide +kernel))
set_option maxRecDepth 20000 in
theorem gX4_share_X3_countPairs : GoodIn wsX4_share (wsV RX4 163 RX3 yX3_countPairs wsX3_countPairs) := goodIn_app (goodIn_of _ (by decide +kernel)) ggX4_share_X3_countPairs
theorem dX4_share_0 : decode cX4_share 0 = .ok (.iload_n 1, 1) := by decide +kernel
theorem dX4_share_1 : decode cX4_share 1 = .ok (.invokestatic 160, 3) := by decide +kernel
theorem dX4_share_4 : decode cX4_share 4 = .ok (.ifCond .ne 7, 3) := by decide +kernel
theorem dX4_share_7 : decode cX4_share 7 = .ok (.sipush (-10002), 3) := by decide +kernel
theorem dX4_share_10 : decode cX4_share 10 = .ok (.ireturn, 1) := by decide +kernel
theorem dX4_share_11 : decode cX4_share 11 = .ok (.aload_n 0, 1) := by decide +kernel
theorem dX4_share_12 : decode cX4_share 12 = .ok (.getfield 12, 3) := by decide +kernel
theorem dX4_share_15 : decode cX4_share 15 = .ok (.aload_n 0, 1) := by decide +kernel
theorem dX4_share_16 : decode cX4_share 16 = .ok (.getfield 19, 3) := by decide +kernel
theorem dX4_share_19 : decode cX4_share 19 = .ok (.invokevirtual 95, 3) := by decide +kernel
theorem dX4_share_22 : decode cX4_share 22 = .ok (.aload_n 0, 1) := by decide +kernel
theorem dX4_share_23 : decode cX4_share 23 = .ok (.getfield 12, 3) := by decide +kernel
theorem dX4_share_26 : decode cX4_share 26 = .ok (.iload_n 1, 1) := by decide +kernel
theorem dX4_share_27 : decode cX4_share 27 = .ok (.iconst 0, 1) := by decide +kernel
theorem dX4_share_28 : decode cX4_share 28 = .ok (.invokevirtual 163, 3) := by decide +kernel
theorem dX4_share_31 : decode cX4_share 31 = .ok (.istore_n 2, 1) := by decide +kernel
theorem dX4_share_32 : decode cX4_share 32 = .ok (.iload_n 2, 1) := by decide +kernel
theorem dX4_share_33 : decode cX4_share 33 = .ok (.ifCond .ne 13, 3) := by decide +kernel
theorem dX4_share_36 : decode cX4_share 36 = .ok (.new 167, 3) := by decide +kernel
theorem dX4_share_39 : decode cX4_share 39 = .ok (.dup, 1) := by decide +kernel
theorem dX4_share_40 : decode cX4_share 40 = .ok (.ldc 169, 2) := by decide +kernel
theorem dX4_share_42 : decode cX4_share 42 = .ok (.invokespecial 171, 3) := by decide +kernel
theorem dX4_share_45 : decode cX4_share 45 = .ok (.athrow, 1) := by decide +kernel
theorem dX4_share_46 : decode cX4_share 46 = .ok (.aload_n 0, 1) := by decide +kernel
theorem dX4_share_47 : decode cX4_share 47 = .ok (.getfield 12, 3) := by decide +kernel
theorem dX4_share_50 : decode cX4_share 50 = .ok (.iload_n 1, 1) := by decide +kernel
theorem dX4_share_51 : decode cX4_share 51 = .ok (.iconst 1, 1) := by decide +kernel
theorem dX4_share_52 : decode cX4_share 52 = .ok (.invokevirtual 163, 3) := by decide +kernel
theorem dX4_share_55 : decode cX4_share 55 = .ok (.sipush 1000, 3) := by decide +kernel
theorem dX4_share_58 : decode cX4_share 58 = .ok (.imul, 1) := by decide +kernel
theorem dX4_share_59 : decode cX4_share 59 = .ok (.iload_n 2, 1) := by decide +kernel
theorem dX4_share_60 : decode cX4_share 60 = .ok (.idiv, 1) := by decide +kernel
theorem dX4_share_61 : decode cX4_share 61 = .ok (.ireturn, 1) := by decide +kernel
set_option maxRecDepth 20000 in
theorem ggX4_about_X1_countLeaves : GoodIn wsX4_about wsX1_countLeaves := goodIn_ca (goodIn_ca (goodIn_r _ [9, 10, 26, 27, 28, 29, 30, 31, 32, 33, 34] (by decide +kernel) (by decide +kernel)) (goodIn_sub (fun _ h => List.mem_cons_of_mem _ (List.mem_append_right _ h)) (by decide +kernel))) (goodIn_sub (fun _ h => List.mem_cons_of_mem _ (List.mem_append_left _ (List.mem_append_right _ h))) (by decide +kernel))
set_option maxRecDepth 20000 in
theorem gX4_about_X1_countLeaves : GoodIn wsX4_about (wsV RX4 107 RX1 yX1_countLeaves wsX1_countLeaves) := goodIn_app (goodIn_of _ (by decide +kernel)) ggX4_about_X1_countLeaves
set_option maxRecDepth 20000 in
theorem ggX4_about_X1_countCutsBy : GoodIn wsX4_about wsX1_countCutsBy := goodIn_ca (goodIn_ca (goodIn_r _ [14, 15, 10, 16, 26, 27, 28, 29, 30, 31, 32, 33, 34] (by decide +kernel) (by decide +kernel)) (goodIn_sub (fun _ h => List.mem_cons_of_mem _ (List.mem_append_right _ h)) (by decide +kernel))) (goodIn_sub (fun _ h => List.mem_cons_of_mem _ (List.mem_append_left _ (List.mem_append_right _ h))) (by decide +kernel))
set_option maxRecDepth 20000 in
theorem gX4_about_X1_countCutsBy : GoodIn wsX4_about (wsV RX4 172 RX1 yX1_countCutsBy wsX1_countCutsBy) := goodIn_app (goodIn_of _ (by decide +kernel)) ggX4_about_X1_countCutsBy
theorem dX4_about_0 : decode cX4_about 0 = .ok (.iload_n 1, 1) := by decide +kernel
theorem dX4_about_1 : decode cX4_about 1 = .ok (.tableswitch 115 0 13 #[71, 79, 87, 115, 115, 115, 115, 115, 115, 115, 103, 103, 103, 103], 71) := by decide +kernel
theorem dX4_about_72 : decode cX4_about 72 = .ok (.aload_n 0, 1) := by decide +kernel
theorem dX4_about_73 : decode cX4_about 73 = .ok (.getfield 12, 3) := by decide +kernel
theorem dX4_about_76 : decode cX4_about 76 = .ok (.getfield 44, 3) := by decide +kernel
theorem dX4_about_79 : decode cX4_about 79 = .ok (.ireturn, 1) := by decide +kernel
theorem dX4_about_80 : decode cX4_about 80 = .ok (.aload_n 0, 1) := by decide +kernel
theorem dX4_about_81 : decode cX4_about 81 = .ok (.getfield 19, 3) := by decide +kernel
theorem dX4_about_84 : decode cX4_about 84 = .ok (.getfield 94, 3) := by decide +kernel
theorem dX4_about_87 : decode cX4_about 87 = .ok (.ireturn, 1) := by decide +kernel
theorem dX4_about_88 : decode cX4_about 88 = .ok (.aload_n 0, 1) := by decide +kernel
theorem dX4_about_89 : decode cX4_about 89 = .ok (.getfield 19, 3) := by decide +kernel
theorem dX4_about_92 : decode cX4_about 92 = .ok (.iconst 0, 1) := by decide +kernel
theorem dX4_about_93 : decode cX4_about 93 = .ok (.aload_n 0, 1) := by decide +kernel
theorem dX4_about_94 : decode cX4_about 94 = .ok (.getfield 19, 3) := by decide +kernel
theorem dX4_about_97 : decode cX4_about 97 = .ok (.getfield 94, 3) := by decide +kernel
theorem dX4_about_100 : decode cX4_about 100 = .ok (.invokevirtual 107, 3) := by decide +kernel
theorem dX4_about_103 : decode cX4_about 103 = .ok (.ireturn, 1) := by decide +kernel
theorem dX4_about_104 : decode cX4_about 104 = .ok (.aload_n 0, 1) := by decide +kernel
theorem dX4_about_105 : decode cX4_about 105 = .ok (.getfield 19, 3) := by decide +kernel
theorem dX4_about_108 : decode cX4_about 108 = .ok (.iload_n 1, 1) := by decide +kernel
theorem dX4_about_109 : decode cX4_about 109 = .ok (.bipush 10, 2) := by decide +kernel
theorem dX4_about_111 : decode cX4_about 111 = .ok (.isub, 1) := by decide +kernel
theorem dX4_about_112 : decode cX4_about 112 = .ok (.invokevirtual 172, 3) := by decide +kernel
theorem dX4_about_115 : decode cX4_about 115 = .ok (.ireturn, 1) := by decide +kernel
theorem dX4_about_116 : decode cX4_about 116 = .ok (.sipush (-10002), 3) := by decide +kernel
theorem dX4_about_119 : decode cX4_about 119 = .ok (.ireturn, 1) := by decide +kernel
set_option maxRecDepth 20000 in
theorem ggX4_clear_X4_startAnew : GoodIn wsX4_clear wsX4_startAnew := goodIn_ca (goodIn_r _ [7, 1, 2, 8, 9, 10, 11, 12, 13, 14, 15, 16, 17, 18, 19, 20, 21, 22, 23, 24, 25, 26, 27, 28, 29, 30, 31, 32, 33, 34, 35, 36, 37, 38, 39, 40, 41, 42, 43, 44, 45, 46, 47, 48, 49, 50, 51, 52, 53, 54, 55] (by decide +kernel) (by decide +kernel)) (goodIn_sub (fun _ h => List.mem_cons_of_mem _ (List.mem_append_right _ h)) (by decide +kernel))
set_option maxRecDepth 20000 in
theorem gX4_clear_X4_startAnew : GoodIn wsX4_clear (wsV RX4 34 RX4 yX4_startAnew wsX4_startAnew) := goodIn_app (goodIn_of _ (by decide +kernel)) ggX4_clear_X4_startAnew
theorem dX4_clear_0 : decode cX4_clear 0 = .ok (.aload_n 0, 1) := by decide +kernel
theorem dX4_clear_1 : decode cX4_clear 1 = .ok (.getfield 12, 3) := by decide +kernel
theorem dX4_clear_4 : decode cX4_clear 4 = .ok (.getfield 44, 3) := by decide +kernel
theorem dX4_clear_7 : decode cX4_clear 7 = .ok (.istore_n 1, 1) := by decide +kernel
theorem dX4_clear_8 : decode cX4_clear 8 = .ok (.aload_n 0, 1) := by decide +kernel
theorem dX4_clear_9 : decode cX4_clear 9 = .ok (.invokevirtual 34, 3) := by decide +kernel
theorem dX4_clear_12 : decode cX4_clear 12 = .ok (.iload_n 1, 1) := by decide +kernel
theorem dX4_clear_13 : decode cX4_clear 13 = .ok (.ireturn, 1) := by decide +kernel
set_option maxRecDepth 20000 in
theorem ggX4_startAnew_X3_forgetRow : GoodIn wsX4_startAnew wsX3_forgetRow := goodIn_r _ [15, 16, 17, 18, 19, 20, 21, 22, 23, 24, 25, 26, 31, 32, 33, 34, 35, 45, 46, 47, 48, 49, 50] (by decide +kernel) (by decide +kernel)
set_option maxRecDepth 20000 in
theorem gX4_startAnew_X3_forgetRow : GoodIn wsX4_startAnew (wsV RX4 175 RX3 yX3_forgetRow wsX3_forgetRow) := goodIn_app (goodIn_of _ (by decide +kernel)) ggX4_startAnew_X3_forgetRow
theorem dX4_startAnew_0 : decode cX4_startAnew 0 = .ok (.aload_n 0, 1) := by decide +kernel
theorem dX4_startAnew_1 : decode cX4_startAnew 1 = .ok (.getfield 12, 3) := by decide +kernel
theorem dX4_startAnew_4 : decode cX4_startAnew 4 = .ok (.iconst 0, 1) := by decide +kernel
theorem dX4_startAnew_5 : decode cX4_startAnew 5 = .ok (.putfield 44, 3) := by decide +kernel
theorem dX4_startAnew_8 : decode cX4_startAnew 8 = .ok (.aload_n 0, 1) := by decide +kernel
theorem dX4_startAnew_9 : decode cX4_startAnew 9 = .ok (.getfield 12, 3) := by decide +kernel
theorem dX4_startAnew_12 : decode cX4_startAnew 12 = .ok (.bipush 24, 2) := by decide +kernel
theorem dX4_startAnew_14 : decode cX4_startAnew 14 = .ok (.invokevirtual 175, 3) := by decide +kernel
theorem dX4_startAnew_17 : decode cX4_startAnew 17 = .ok (.aload_n 0, 1) := by decide +kernel
theorem dX4_startAnew_18 : decode cX4_startAnew 18 = .ok (.getfield 19, 3) := by decide +kernel
theorem dX4_startAnew_21 : decode cX4_startAnew 21 = .ok (.iconst 0, 1) := by decide +kernel
theorem dX4_startAnew_22 : decode cX4_startAnew 22 = .ok (.putfield 94, 3) := by decide +kernel
theorem dX4_startAnew_25 : decode cX4_startAnew 25 = .ok (.getstatic 179, 3) := by decide +kernel
theorem dX4_startAnew_28 : decode cX4_startAnew 28 = .ok (.iconst 0, 1) := by decide +kernel
theorem dX4_startAnew_29 : decode cX4_startAnew 29 = .ok (.aload_n 0, 1) := by decide +kernel
theorem dX4_startAnew_30 : decode cX4_startAnew 30 = .ok (.getfield 30, 3) := by decide +kernel
theorem dX4_startAnew_33 : decode cX4_startAnew 33 = .ok (.iconst 0, 1) := by decide +kernel
theorem dX4_startAnew_34 : decode cX4_startAnew 34 = .ok (.iconst 4, 1) := by decide +kernel
theorem dX4_startAnew_35 : decode cX4_startAnew 35 = .ok (.invokestatic 182, 3) := by decide +kernel
theorem dX4_startAnew_38 : decode cX4_startAnew 38 = .ok (.return_, 1) := by decide +kernel
theorem dX4_isList_0 : decode cX4_isList 0 = .ok (.iload_n 0, 1) := by decide +kernel
theorem dX4_isList_1 : decode cX4_isList 1 = .ok (.ifCond .lt 12, 3) := by decide +kernel
theorem dX4_isList_4 : decode cX4_isList 4 = .ok (.iload_n 0, 1) := by decide +kernel
theorem dX4_isList_5 : decode cX4_isList 5 = .ok (.iconst 4, 1) := by decide +kernel
theorem dX4_isList_6 : decode cX4_isList 6 = .ok (.if_icmp .ge 7, 3) := by decide +kernel
theorem dX4_isList_9 : decode cX4_isList 9 = .ok (.iconst 1, 1) := by decide +kernel
theorem dX4_isList_10 : decode cX4_isList 10 = .ok (.goto 4, 3) := by decide +kernel
theorem dX4_isList_13 : decode cX4_isList 13 = .ok (.iconst 0, 1) := by decide +kernel
theorem dX4_isList_14 : decode cX4_isList 14 = .ok (.ireturn, 1) := by decide +kernel
set_option maxRecDepth 20000 in
theorem ggX4_isListOrAll_X4_isList : GoodIn wsX4_isListOrAll wsX4_isList := goodIn_r _ [4] (by decide +kernel) (by decide +kernel)
set_option maxRecDepth 20000 in
theorem gX4_isListOrAll_X4_isList : GoodIn wsX4_isListOrAll (va_wsS RX4 37 yX4_isList wsX4_isList) := goodIn_app (goodIn_of _ (by decide +kernel)) ggX4_isListOrAll_X4_isList
theorem dX4_isListOrAll_0 : decode cX4_isListOrAll 0 = .ok (.iload_n 0, 1) := by decide +kernel
theorem dX4_isListOrAll_1 : decode cX4_isListOrAll 1 = .ok (.iconst (-1), 1) := by decide +kernel
theorem dX4_isListOrAll_2 : decode cX4_isListOrAll 2 = .ok (.if_icmp .eq 10, 3) := by decide +kernel
theorem dX4_isListOrAll_5 : decode cX4_isListOrAll 5 = .ok (.iload_n 0, 1) := by decide +kernel
theorem dX4_isListOrAll_6 : decode cX4_isListOrAll 6 = .ok (.invokestatic 37, 3) := by decide +kernel
theorem dX4_isListOrAll_9 : decode cX4_isListOrAll 9 = .ok (.ifCond .eq 7, 3) := by decide +kernel
theorem dX4_isListOrAll_12 : decode cX4_isListOrAll 12 = .ok (.iconst 1, 1) := by decide +kernel
theorem dX4_isListOrAll_13 : decode cX4_isListOrAll 13 = .ok (.goto 4, 3) := by decide +kernel
theorem dX4_isListOrAll_16 : decode cX4_isListOrAll 16 = .ok (.iconst 0, 1) := by decide +kernel
theorem dX4_isListOrAll_17 : decode cX4_isListOrAll 17 = .ok (.ireturn, 1) := by decide +kernel
theorem dX4_isGrade_0 : decode cX4_isGrade 0 = .ok (.iload_n 0, 1) := by decide +kernel
theorem dX4_isGrade_1 : decode cX4_isGrade 1 = .ok (.ifCond .lt 12, 3) := by decide +kernel
theorem dX4_isGrade_4 : decode cX4_isGrade 4 = .ok (.iload_n 0, 1) := by decide +kernel
theorem dX4_isGrade_5 : decode cX4_isGrade 5 = .ok (.iconst 4, 1) := by decide +kernel
theorem dX4_isGrade_6 : decode cX4_isGrade 6 = .ok (.if_icmp .gt 7, 3) := by decide +kernel
theorem dX4_isGrade_9 : decode cX4_isGrade 9 = .ok (.iconst 1, 1) := by decide +kernel
theorem dX4_isGrade_10 : decode cX4_isGrade 10 = .ok (.goto 4, 3) := by decide +kernel
theorem dX4_isGrade_13 : decode cX4_isGrade 13 = .ok (.iconst 0, 1) := by decide +kernel
theorem dX4_isGrade_14 : decode cX4_isGrade 14 = .ok (.ireturn, 1) := by decide +kernel
theorem dX4_isFeature_0 : decode cX4_isFeature 0 = .ok (.iload_n 0, 1) := by decide +kernel
theorem dX4_isFeature_1 : decode cX4_isFeature 1 = .ok (.ifCond .lt 12, 3) := by decide +kernel
theorem dX4_isFeature_4 : decode cX4_isFeature 4 = .ok (.iload_n 0, 1) := by decide +kernel
theorem dX4_isFeature_5 : decode cX4_isFeature 5 = .ok (.iconst 4, 1) := by decide +kernel
theorem dX4_isFeature_6 : decode cX4_isFeature 6 = .ok (.if_icmp .ge 7, 3) := by decide +kernel
theorem dX4_isFeature_9 : decode cX4_isFeature 9 = .ok (.iconst 1, 1) := by decide +kernel
theorem dX4_isFeature_10 : decode cX4_isFeature 10 = .ok (.goto 4, 3) := by decide +kernel
theorem dX4_isFeature_13 : decode cX4_isFeature 13 = .ok (.iconst 0, 1) := by decide +kernel
theorem dX4_isFeature_14 : decode cX4_isFeature 14 = .ok (.ireturn, 1) := by decide +kernel
