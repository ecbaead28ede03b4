set_option maxRecDepth 20000 in
theorem ggX5_init_X5_begins : GoodIn wsX5_init wsX5_begins := goodIn_ca (goodIn_ca (goodIn_r _ [27, 28, 29, 9, 10, 30, 31, 32, 33, 34, 35, 36, 37, 38, 39, 40, 41, 42, 43, 44, 45, 46, 47, 48, 49, 50, 51, 52, 53] (by decide +kernel) (by decide +kernel)) (goodIn_sub (fun _ h => List.mem_cons_of_mem _ (List.mem_append_right _ h)) (by decide +kernel))) (goodIn_sub (fun _ h => List.mem_cons_of_mem _ (List.mem_append_left _ (List.mem_append_right _ h))) (by decide +kernel))
set_option maxRecDepth 20000 in
theorem gX5_init_X5_begins : GoodIn wsX5_init (wsV RX5 60 RX5 yX5_begins wsX5_begins) := goodIn_app (goodIn_of _ (by decide +kernel)) ggX5_init_X5_begins
theorem dX5_init_0 : decode cX5_init 0 = .ok (.aload_n 0, 1) := by decide +kernel
theorem dX5_init_1 : decode cX5_init 1 = .ok (.invokespecial 1, 3) := by decide +kernel
theorem dX5_init_4 : decode cX5_init 4 = .ok (.aload_n 0, 1) := by decide +kernel
theorem dX5_init_5 : decode cX5_init 5 = .ok (.bipush 24, 2) := by decide +kernel
theorem dX5_init_7 : decode cX5_init 7 = .ok (.newarray .int, 2) := by decide +kernel
theorem dX5_init_9 : decode cX5_init 9 = .ok (.putfield 7, 3) := by decide +kernel
theorem dX5_init_12 : decode cX5_init 12 = .ok (.aload_n 0, 1) := by decide +kernel
theorem dX5_init_13 : decode cX5_init 13 = .ok (.bipush 24, 2) := by decide +kernel
theorem dX5_init_15 : decode cX5_init 15 = .ok (.newarray .int, 2) := by decide +kernel
theorem dX5_init_17 : decode cX5_init 17 = .ok (.putfield 13, 3) := by decide +kernel
theorem dX5_init_20 : decode cX5_init 20 = .ok (.aload_n 0, 1) := by decide +kernel
theorem dX5_init_21 : decode cX5_init 21 = .ok (.bipush 100, 2) := by decide +kernel
theorem dX5_init_23 : decode cX5_init 23 = .ok (.newarray .int, 2) := by decide +kernel
theorem dX5_init_25 : decode cX5_init 25 = .ok (.putfield 16, 3) := by decide +kernel
theorem dX5_init_28 : decode cX5_init 28 = .ok (.aload_n 0, 1) := by decide +kernel
theorem dX5_init_29 : decode cX5_init 29 = .ok (.bipush 100, 2) := by decide +kernel
theorem dX5_init_31 : decode cX5_init 31 = .ok (.newarray .boolean, 2) := by decide +kernel
theorem dX5_init_33 : decode cX5_init 33 = .ok (.putfield 19, 3) := by decide +kernel
theorem dX5_init_36 : decode cX5_init 36 = .ok (.aload_n 0, 1) := by decide +kernel
theorem dX5_init_37 : decode cX5_init 37 = .ok (.iconst 4, 1) := by decide +kernel
theorem dX5_init_38 : decode cX5_init 38 = .ok (.newarray .int, 2) := by decide +kernel
theorem dX5_init_40 : decode cX5_init 40 = .ok (.putfield 23, 3) := by decide +kernel
theorem dX5_init_43 : decode cX5_init 43 = .ok (.aload_n 0, 1) := by decide +kernel
theorem dX5_init_44 : decode cX5_init 44 = .ok (.sipush 300, 3) := by decide +kernel
theorem dX5_init_47 : decode cX5_init 47 = .ok (.newarray .int, 2) := by decide +kernel
theorem dX5_init_49 : decode cX5_init 49 = .ok (.putfield 26, 3) := by decide +kernel
theorem dX5_init_52 : decode cX5_init 52 = .ok (.aload_n 0, 1) := by decide +kernel
theorem dX5_init_53 : decode cX5_init 53 = .ok (.sipush 300, 3) := by decide +kernel
theorem dX5_init_56 : decode cX5_init 56 = .ok (.newarray .int, 2) := by decide +kernel
theorem dX5_init_58 : decode cX5_init 58 = .ok (.putfield 29, 3) := by decide +kernel
theorem dX5_init_61 : decode cX5_init 61 = .ok (.aload_n 0, 1) := by decide +kernel
theorem dX5_init_62 : decode cX5_init 62 = .ok (.sipush 300, 3) := by decide +kernel
theorem dX5_init_65 : decode cX5_init 65 = .ok (.newarray .int, 2) := by decide +kernel
theorem dX5_init_67 : decode cX5_init 67 = .ok (.putfield 32, 3) := by decide +kernel
theorem dX5_init_70 : decode cX5_init 70 = .ok (.aload_n 0, 1) := by decide +kernel
theorem dX5_init_71 : decode cX5_init 71 = .ok (.sipush 300, 3) := by decide +kernel
theorem dX5_init_74 : decode cX5_init 74 = .ok (.newarray .int, 2) := by decide +kernel
theorem dX5_init_76 : decode cX5_init 76 = .ok (.putfield 35, 3) := by decide +kernel
theorem dX5_init_79 : decode cX5_init 79 = .ok (.aload_n 0, 1) := by decide +kernel
theorem dX5_init_80 : decode cX5_init 80 = .ok (.sipush 300, 3) := by decide +kernel
theorem dX5_init_83 : decode cX5_init 83 = .ok (.newarray .int, 2) := by decide +kernel
theorem dX5_init_85 : decode cX5_init 85 = .ok (.putfield 38, 3) := by decide +kernel
theorem dX5_init_88 : decode cX5_init 88 = .ok (.aload_n 0, 1) := by decide +kernel
theorem dX5_init_89 : decode cX5_init 89 = .ok (.sipush 300, 3) := by decide +kernel
theorem dX5_init_92 : decode cX5_init 92 = .ok (.newarray .int, 2) := by decide +kernel
theorem dX5_init_94 : decode cX5_init 94 = .ok (.putfield 41, 3) := by decide +kernel
theorem dX5_init_97 : decode cX5_init 97 = .ok (.aload_n 0, 1) := by decide +kernel
theorem dX5_init_98 : decode cX5_init 98 = .ok (.sipush 300, 3) := by decide +kernel
theorem dX5_init_101 : decode cX5_init 101 = .ok (.newarray .long, 2) := by decide +kernel
theorem dX5_init_103 : decode cX5_init 103 = .ok (.putfield 44, 3) := by decide +kernel
theorem dX5_init_106 : decode cX5_init 106 = .ok (.aload_n 0, 1) := by decide +kernel
theorem dX5_init_107 : decode cX5_init 107 = .ok (.sipush 300, 3) := by decide +kernel
theorem dX5_init_110 : decode cX5_init 110 = .ok (.newarray .long, 2) := by decide +kernel
theorem dX5_init_112 : decode cX5_init 112 = .ok (.putfield 48, 3) := by decide +kernel
theorem dX5_init_115 : decode cX5_init 115 = .ok (.aload_n 0, 1) := by decide +kernel
theorem dX5_init_116 : decode cX5_init 116 = .ok (.bipush 24, 2) := by decide +kernel
theorem dX5_init_118 : decode cX5_init 118 = .ok (.newarray .long, 2) := by decide +kernel
theorem dX5_init_120 : decode cX5_init 120 = .ok (.putfield 51, 3) := by decide +kernel
theorem dX5_init_123 : decode cX5_init 123 = .ok (.aload_n 0, 1) := by decide +kernel
theorem dX5_init_124 : decode cX5_init 124 = .ok (.bipush 24, 2) := by decide +kernel
theorem dX5_init_126 : decode cX5_init 126 = .ok (.newarray .int, 2) := by decide +kernel
theorem dX5_init_128 : decode cX5_init 128 = .ok (.putfield 54, 3) := by decide +kernel
theorem dX5_init_131 : decode cX5_init 131 = .ok (.aload_n 0, 1) := by decide +kernel
theorem dX5_init_132 : decode cX5_init 132 = .ok (.bipush 24, 2) := by decide +kernel
theorem dX5_init_134 : decode cX5_init 134 = .ok (.newarray .int, 2) := by decide +kernel
theorem dX5_init_136 : decode cX5_init 136 = .ok (.putfield 57, 3) := by decide +kernel
theorem dX5_init_139 : decode cX5_init 139 = .ok (.aload_n 0, 1) := by decide +kernel
theorem dX5_init_140 : decode cX5_init 140 = .ok (.invokevirtual 60, 3) := by decide +kernel
theorem dX5_init_143 : decode cX5_init 143 = .ok (.return_, 1) := by decide +kernel
theorem dX5_begins_0 : decode cX5_begins 0 = .ok (.aload_n 0, 1) := by decide +kernel
theorem dX5_begins_1 : decode cX5_begins 1 = .ok (.iconst 0, 1) := by decide +kernel
theorem dX5_begins_2 : decode cX5_begins 2 = .ok (.putfield 63, 3) := by decide +kernel
theorem dX5_begins_5 : decode cX5_begins 5 = .ok (.aload_n 0, 1) := by decide +kernel
theorem dX5_begins_6 : decode cX5_begins 6 = .ok (.iconst 0, 1) := by decide +kernel
theorem dX5_begins_7 : decode cX5_begins 7 = .ok (.putfield 67, 3) := by decide +kernel
theorem dX5_begins_10 : decode cX5_begins 10 = .ok (.iconst 0, 1) := by decide +kernel
theorem dX5_begins_11 : decode cX5_begins 11 = .ok (.istore_n 1, 1) := by decide +kernel
theorem dX5_begins_12 : decode cX5_begins 12 = .ok (.iload_n 1, 1) := by decide +kernel
theorem dX5_begins_13 : decode cX5_begins 13 = .ok (.bipush 100, 2) := by decide +kernel
theorem dX5_begins_15 : decode cX5_begins 15 = .ok (.if_icmp .ge 16, 3) := by decide +kernel
theorem dX5_begins_18 : decode cX5_begins 18 = .ok (.aload_n 0, 1) := by decide +kernel
theorem dX5_begins_19 : decode cX5_begins 19 = .ok (.getfield 19, 3) := by decide +kernel
theorem dX5_begins_22 : decode cX5_begins 22 = .ok (.iload_n 1, 1) := by decide +kernel
theorem dX5_begins_23 : decode cX5_begins 23 = .ok (.iconst 0, 1) := by decide +kernel
theorem dX5_begins_24 : decode cX5_begins 24 = .ok (.bastore, 1) := by decide +kernel
theorem dX5_begins_25 : decode cX5_begins 25 = .ok (.iinc 1 1, 3) := by decide +kernel
theorem dX5_begins_28 : decode cX5_begins 28 = .ok (.goto (-16), 3) := by decide +kernel
theorem dX5_begins_31 : decode cX5_begins 31 = .ok (.aload_n 0, 1) := by decide +kernel
theorem dX5_begins_32 : decode cX5_begins 32 = .ok (.getfield 23, 3) := by decide +kernel
theorem dX5_begins_35 : decode cX5_begins 35 = .ok (.iconst 0, 1) := by decide +kernel
theorem dX5_begins_36 : decode cX5_begins 36 = .ok (.bipush 10, 2) := by decide +kernel
theorem dX5_begins_38 : decode cX5_begins 38 = .ok (.iastore, 1) := by decide +kernel
theorem dX5_begins_39 : decode cX5_begins 39 = .ok (.aload_n 0, 1) := by decide +kernel
theorem dX5_begins_40 : decode cX5_begins 40 = .ok (.getfield 23, 3) := by decide +kernel
theorem dX5_begins_43 : decode cX5_begins 43 = .ok (.iconst 1, 1) := by decide +kernel
theorem dX5_begins_44 : decode cX5_begins 44 = .ok (.bipush 10, 2) := by decide +kernel
theorem dX5_begins_46 : decode cX5_begins 46 = .ok (.iastore, 1) := by decide +kernel
theorem dX5_begins_47 : decode cX5_begins 47 = .ok (.aload_n 0, 1) := by decide +kernel
theorem dX5_begins_48 : decode cX5_begins 48 = .ok (.getfield 23, 3) := by decide +kernel
theorem dX5_begins_51 : decode cX5_begins 51 = .ok (.iconst 2, 1) := by decide +kernel
theorem dX5_begins_52 : decode cX5_begins 52 = .ok (.iconst 2, 1) := by decide +kernel
theorem dX5_begins_53 : decode cX5_begins 53 = .ok (.iastore, 1) := by decide +kernel
theorem dX5_begins_54 : decode cX5_begins 54 = .ok (.aload_n 0, 1) := by decide +kernel
theorem dX5_begins_55 : decode cX5_begins 55 = .ok (.getfield 23, 3) := by decide +kernel
theorem dX5_begins_58 : decode cX5_begins 58 = .ok (.iconst 3, 1) := by decide +kernel
theorem dX5_begins_59 : decode cX5_begins 59 = .ok (.iconst 1, 1) := by decide +kernel
theorem dX5_begins_60 : decode cX5_begins 60 = .ok (.iastore, 1) := by decide +kernel
theorem dX5_begins_61 : decode cX5_begins 61 = .ok (.return_, 1) := by decide +kernel
theorem dX5_thrown_0 : decode cX5_thrown 0 = .ok (.aload_n 0, 1) := by decide +kernel
theorem dX5_thrown_1 : decode cX5_thrown 1 = .ok (.getfield 70, 3) := by decide +kernel
theorem dX5_thrown_4 : decode cX5_thrown 4 = .ok (.ireturn, 1) := by decide +kernel
theorem dX5_in_0 : decode cX5_in 0 = .ok (.iload_n 0, 1) := by decide +kernel
theorem dX5_in_1 : decode cX5_in 1 = .ok (.iload_n 1, 1) := by decide +kernel
theorem dX5_in_2 : decode cX5_in 2 = .ok (.if_icmp .lt 12, 3) := by decide +kernel
theorem dX5_in_5 : decode cX5_in 5 = .ok (.iload_n 0, 1) := by decide +kernel
theorem dX5_in_6 : decode cX5_in 6 = .ok (.iload_n 2, 1) := by decide +kernel
theorem dX5_in_7 : decode cX5_in 7 = .ok (.if_icmp .gt 7, 3) := by decide +kernel
theorem dX5_in_10 : decode cX5_in 10 = .ok (.iconst 1, 1) := by decide +kernel
theorem dX5_in_11 : decode cX5_in 11 = .ok (.goto 4, 3) := by decide +kernel
theorem dX5_in_14 : decode cX5_in 14 = .ok (.iconst 0, 1) := by decide +kernel
theorem dX5_in_15 : decode cX5_in 15 = .ok (.ireturn, 1) := by decide +kernel
set_option maxRecDepth 20000 in
theorem ggX5_isThing_X5_in : GoodIn wsX5_isThing wsX5_in := goodIn_r _ [5] (by decide +kernel) (by decide +kernel)
set_option maxRecDepth 20000 in
theorem gX5_isThing_X5_in : GoodIn wsX5_isThing (va_wsS RX5 73 yX5_in wsX5_in) := goodIn_app (goodIn_of _ (by decide +kernel)) ggX5_isThing_X5_in
theorem dX5_isThing_0 : decode cX5_isThing 0 = .ok (.iload_n 1, 1) := by decide +kernel
theorem dX5_isThing_1 : decode cX5_isThing 1 = .ok (.iconst 0, 1) := by decide +kernel
theorem dX5_isThing_2 : decode cX5_isThing 2 = .ok (.aload_n 0, 1) := by decide +kernel
theorem dX5_isThing_3 : decode cX5_isThing 3 = .ok (.getfield 63, 3) := by decide +kernel
theorem dX5_isThing_6 : decode cX5_isThing 6 = .ok (.iconst 1, 1) := by decide +kernel
theorem dX5_isThing_7 : decode cX5_isThing 7 = .ok (.isub, 1) := by decide +kernel
theorem dX5_isThing_8 : decode cX5_isThing 8 = .ok (.invokestatic 73, 3) := by decide +kernel
theorem dX5_isThing_11 : decode cX5_isThing 11 = .ok (.ireturn, 1) := by decide +kernel
set_option maxRecDepth 20000 in
theorem ggX5_isAny_X5_isThing : GoodIn wsX5_isAny wsX5_isThing := goodIn_r _ [5, 6, 7, 8, 4, 9, 10, 11, 12, 13, 14, 15, 16, 17, 18, 19, 20, 21, 22, 23, 24, 25, 26, 27, 28, 29, 30, 31, 32, 33] (by decide +kernel) (by decide +kernel)
set_option maxRecDepth 20000 in
theorem gX5_isAny_X5_isThing : GoodIn wsX5_isAny (wsV RX5 77 RX5 yX5_isThing wsX5_isThing) := goodIn_app (goodIn_of _ (by decide +kernel)) ggX5_isAny_X5_isThing
theorem dX5_isAny_0 : decode cX5_isAny 0 = .ok (.iload_n 1, 1) := by decide +kernel
theorem dX5_isAny_1 : decode cX5_isAny 1 = .ok (.iconst (-1), 1) := by decide +kernel
theorem dX5_isAny_2 : decode cX5_isAny 2 = .ok (.if_icmp .eq 11, 3) := by decide +kernel
theorem dX5_isAny_5 : decode cX5_isAny 5 = .ok (.aload_n 0, 1) := by decide +kernel
theorem dX5_isAny_6 : decode cX5_isAny 6 = .ok (.iload_n 1, 1) := by decide +kernel
theorem dX5_isAny_7 : decode cX5_isAny 7 = .ok (.invokevirtual 77, 3) := by decide +kernel
theorem dX5_isAny_10 : decode cX5_isAny 10 = .ok (.ifCond .eq 7, 3) := by decide +kernel
theorem dX5_isAny_13 : decode cX5_isAny 13 = .ok (.iconst 1, 1) := by decide +kernel
theorem dX5_isAny_14 : decode cX5_isAny 14 = .ok (.goto 4, 3) := by decide +kernel
theorem dX5_isAny_17 : decode cX5_isAny 17 = .ok (.iconst 0, 1) := by decide +kernel
theorem dX5_isAny_18 : decode cX5_isAny 18 = .ok (.ireturn, 1) := by decide +kernel
theorem dX5_at_0 : decode cX5_at 0 = .ok (.iload_n 0, 1) := by decide +kernel
theorem dX5_at_1 : decode cX5_at 1 = .ok (.iconst (-1), 1) := by decide +kernel
theorem dX5_at_2 : decode cX5_at 2 = .ok (.if_icmp .ne 8, 3) := by decide +kernel
theorem dX5_at_5 : decode cX5_at 5 = .ok (.bipush 96, 2) := by decide +kernel
theorem dX5_at_7 : decode cX5_at 7 = .ok (.goto 6, 3) := by decide +kernel
theorem dX5_at_10 : decode cX5_at 10 = .ok (.iconst 4, 1) := by decide +kernel
theorem dX5_at_11 : decode cX5_at 11 = .ok (.iload_n 0, 1) := by decide +kernel
theorem dX5_at_12 : decode cX5_at 12 = .ok (.imul, 1) := by decide +kernel
theorem dX5_at_13 : decode cX5_at 13 = .ok (.ireturn, 1) := by decide +kernel
set_option maxRecDepth 20000 in
theorem ggX5_thing_X5_in : GoodIn wsX5_thing wsX5_in := goodIn_r _ [9] (by decide +kernel) (by decide +kernel)
set_option maxRecDepth 20000 in
theorem gX5_thing_X5_in : GoodIn wsX5_thing (va_wsS RX5 73 yX5_in wsX5_in) := goodIn_app (goodIn_of _ (by decide +kernel)) ggX5_thing_X5_in
theorem dX5_thing_0 : decode cX5_thing 0 = .ok (.aload_n 0, 1) := by decide +kernel
theorem dX5_thing_1 : decode cX5_thing 1 = .ok (.iconst 0, 1) := by decide +kernel
theorem dX5_thing_2 : decode cX5_thing 2 = .ok (.putfield 70, 3) := by decide +kernel
theorem dX5_thing_5 : decode cX5_thing 5 = .ok (.iload_n 1, 1) := by decide +kernel
theorem dX5_thing_6 : decode cX5_thing 6 = .ok (.iconst 0, 1) := by decide +kernel
theorem dX5_thing_7 : decode cX5_thing 7 = .ok (.iconst 3, 1) := by decide +kernel
theorem dX5_thing_8 : decode cX5_thing 8 = .ok (.invokestatic 73, 3) := by decide +kernel
theorem dX5_thing_11 : decode cX5_thing 11 = .ok (.ifCond .eq 12, 3) := by decide +kernel
theorem dX5_thing_14 : decode cX5_thing 14 = .ok (.iload_n 2, 1) := by decide +kernel
theorem dX5_thing_15 : decode cX5_thing 15 = .ok (.iconst 0, 1) := by decide +kernel
theorem dX5_thing_16 : decode cX5_thing 16 = .ok (.iconst 4, 1) := by decide +kernel
theorem dX5_thing_17 : decode cX5_thing 17 = .ok (.invokestatic 73, 3) := by decide +kernel
theorem dX5_thing_20 : decode cX5_thing 20 = .ok (.ifCond .ne 7, 3) := by decide +kernel
theorem dX5_thing_23 : decode cX5_thing 23 = .ok (.sipush (-10002), 3) := by decide +kernel
theorem dX5_thing_26 : decode cX5_thing 26 = .ok (.ireturn, 1) := by decide +kernel
theorem dX5_thing_27 : decode cX5_thing 27 = .ok (.aload_n 0, 1) := by decide +kernel
theorem dX5_thing_28 : decode cX5_thing 28 = .ok (.getfield 63, 3) := by decide +kernel
theorem dX5_thing_31 : decode cX5_thing 31 = .ok (.bipush 24, 2) := by decide +kernel
theorem dX5_thing_33 : decode cX5_thing 33 = .ok (.if_icmp .ne 7, 3) := by decide +kernel
theorem dX5_thing_36 : decode cX5_thing 36 = .ok (.sipush (-10003), 3) := by decide +kernel
theorem dX5_thing_39 : decode cX5_thing 39 = .ok (.ireturn, 1) := by decide +kernel
theorem dX5_thing_40 : decode cX5_thing 40 = .ok (.aload_n 0, 1) := by decide +kernel
theorem dX5_thing_41 : decode cX5_thing 41 = .ok (.getfield 7, 3) := by decide +kernel
theorem dX5_thing_44 : decode cX5_thing 44 = .ok (.aload_n 0, 1) := by decide +kernel
theorem dX5_thing_45 : decode cX5_thing 45 = .ok (.getfield 63, 3) := by decide +kernel
theorem dX5_thing_48 : decode cX5_thing 48 = .ok (.iload_n 1, 1) := by decide +kernel
theorem dX5_thing_49 : decode cX5_thing 49 = .ok (.iastore, 1) := by decide +kernel
theorem dX5_thing_50 : decode cX5_thing 50 = .ok (.aload_n 0, 1) := by decide +kernel
theorem dX5_thing_51 : decode cX5_thing 51 = .ok (.getfield 13, 3) := by decide +kernel
theorem dX5_thing_54 : decode cX5_thing 54 = .ok (.aload_n 0, 1) := by decide +kernel
theorem dX5_thing_55 : decode cX5_thing 55 = .ok (.getfield 63, 3) := by decide +kernel
theorem dX5_thing_58 : decode cX5_thing 58 = .ok (.iload_n 2, 1) := by decide +kernel
theorem dX5_thing_59 : decode cX5_thing 59 = .ok (.iastore, 1) := by decide +kernel
theorem dX5_thing_60 : decode cX5_thing 60 = .ok (.iconst 0, 1) := by decide +kernel
theorem dX5_thing_61 : decode cX5_thing 61 = .ok (.istore_n 3, 1) := by decide +kernel
theorem dX5_thing_62 : decode cX5_thing 62 = .ok (.iload_n 3, 1) := by decide +kernel
theorem dX5_thing_63 : decode cX5_thing 63 = .ok (.iconst 4, 1) := by decide +kernel
theorem dX5_thing_64 : decode cX5_thing 64 = .ok (.if_icmp .ge 23, 3) := by decide +kernel
theorem dX5_thing_67 : decode cX5_thing 67 = .ok (.aload_n 0, 1) := by decide +kernel
theorem dX5_thing_68 : decode cX5_thing 68 = .ok (.getfield 19, 3) := by decide +kernel
theorem dX5_thing_71 : decode cX5_thing 71 = .ok (.iconst 4, 1) := by decide +kernel
theorem dX5_thing_72 : decode cX5_thing 72 = .ok (.aload_n 0, 1) := by decide +kernel
theorem dX5_thing_73 : decode cX5_thing 73 = .ok (.getfield 63, 3) := by decide +kernel
theorem dX5_thing_76 : decode cX5_thing 76 = .ok (.imul, 1) := by decide +kernel
theorem dX5_thing_77 : decode cX5_thing 77 = .ok (.iload_n 3, 1) := by decide +kernel
theorem dX5_thing_78 : decode cX5_thing 78 = .ok (.iadd, 1) := by decide +kernel
theorem dX5_thing_79 : decode cX5_thing 79 = .ok (.iconst 0, 1) := by decide +kernel
theorem dX5_thing_80 : decode cX5_thing 80 = .ok (.bastore, 1) := by decide +kernel
theorem dX5_thing_81 : decode cX5_thing 81 = .ok (.iinc 3 1, 3) := by decide +kernel
theorem dX5_thing_84 : decode cX5_thing 84 = .ok (.goto (-22), 3) := by decide +kernel
theorem dX5_thing_87 : decode cX5_thing 87 = .ok (.aload_n 0, 1) := by decide +kernel
theorem dX5_thing_88 : decode cX5_thing 88 = .ok (.dup, 1) := by decide +kernel
theorem dX5_thing_89 : decode cX5_thing 89 = .ok (.getfield 63, 3) := by decide +kernel
theorem dX5_thing_92 : decode cX5_thing 92 = .ok (.iconst 1, 1) := by decide +kernel
theorem dX5_thing_93 : decode cX5_thing 93 = .ok (.iadd, 1) := by decide +kernel
theorem dX5_thing_94 : decode cX5_thing 94 = .ok (.putfield 63, 3) := by decide +kernel
theorem dX5_thing_97 : decode cX5_thing 97 = .ok (.aload_n 0, 1) := by decide +kernel
theorem dX5_thing_98 : decode cX5_thing 98 = .ok (.getfield 63, 3) := by decide +kernel
theorem dX5_thing_101 : decode cX5_thing 101 = .ok (.iconst 1, 1) := by decide +kernel
theorem dX5_thing_102 : decode cX5_thing 102 = .ok (.isub, 1) := by decide +kernel
theorem dX5_thing_103 : decode cX5_thing 103 = .ok (.ireturn, 1) := by decide +kernel
set_option maxRecDepth 20000 in
theorem ggX5_grade_X5_isThing : GoodIn wsX5_grade wsX5_isThing := goodIn_r _ [7, 8, 9, 10, 6, 11, 12, 13, 14, 15, 16, 17, 18, 19, 20, 21, 22, 23, 24, 25, 26, 27, 28, 29, 30, 31, 32, 33, 34, 35] (by decide +kernel) (by decide +kernel)
set_option maxRecDepth 20000 in
theorem gX5_grade_X5_isThing : GoodIn wsX5_grade (wsV RX5 77 RX5 yX5_isThing wsX5_isThing) := goodIn_app (goodIn_of _ (by decide +kernel)) ggX5_grade_X5_isThing
set_option maxRecDepth 20000 in
theorem ggX5_grade_X5_in : GoodIn wsX5_grade wsX5_in := goodIn_r _ [11] (by decide +kernel) (by decide +kernel)
set_option maxRecDepth 20000 in
theorem gX5_grade_X5_in : GoodIn wsX5_grade (va_wsS RX5 73 yX5_in wsX5_in) := goodIn_app (goodIn_of _ (by decide +kernel)) ggX5_grade_X5_in
theorem dX5_grade_0 : decode cX5_grade 0 = .ok (.aload_n 0, 1) := by decide +kernel
theorem dX5_grade_1 : decode cX5_grade 1 = .ok (.iconst 0, 1) := by decide +kernel
theorem dX5_grade_2 : decode cX5_grade 2 = .ok (.putfield 70, 3) := by decide +kernel
theorem dX5_grade_5 : decode cX5_grade 5 = .ok (.aload_n 0, 1) := by decide +kernel
theorem dX5_grade_6 : decode cX5_grade 6 = .ok (.iload_n 1, 1) := by decide +kernel
theorem dX5_grade_7 : decode cX5_grade 7 = .ok (.invokevirtual 77, 3) := by decide +kernel
theorem dX5_grade_10 : decode cX5_grade 10 = .ok (.ifCond .ne 7, 3) := by decide +kernel
theorem dX5_grade_13 : decode cX5_grade 13 = .ok (.sipush (-10001), 3) := by decide +kernel
theorem dX5_grade_16 : decode cX5_grade 16 = .ok (.ireturn, 1) := by decide +kernel
theorem dX5_grade_17 : decode cX5_grade 17 = .ok (.iload_n 2, 1) := by decide +kernel
theorem dX5_grade_18 : decode cX5_grade 18 = .ok (.iconst 0, 1) := by decide +kernel
theorem dX5_grade_19 : decode cX5_grade 19 = .ok (.iconst 4, 1) := by decide +kernel
theorem dX5_grade_20 : decode cX5_grade 20 = .ok (.invokestatic 73, 3) := by decide +kernel
theorem dX5_grade_23 : decode cX5_grade 23 = .ok (.ifCond .ne 7, 3) := by decide +kernel
theorem dX5_grade_26 : decode cX5_grade 26 = .ok (.sipush (-10002), 3) := by decide +kernel
theorem dX5_grade_29 : decode cX5_grade 29 = .ok (.ireturn, 1) := by decide +kernel
theorem dX5_grade_30 : decode cX5_grade 30 = .ok (.aload_n 0, 1) := by decide +kernel
theorem dX5_grade_31 : decode cX5_grade 31 = .ok (.getfield 13, 3) := by decide +kernel
theorem dX5_grade_34 : decode cX5_grade 34 = .ok (.iload_n 1, 1) := by decide +kernel
theorem dX5_grade_35 : decode cX5_grade 35 = .ok (.iaload, 1) := by decide +kernel
theorem dX5_grade_36 : decode cX5_grade 36 = .ok (.istore_n 3, 1) := by decide +kernel
theorem dX5_grade_37 : decode cX5_grade 37 = .ok (.aload_n 0, 1) := by decide +kernel
theorem dX5_grade_38 : decode cX5_grade 38 = .ok (.getfield 13, 3) := by decide +kernel
theorem dX5_grade_41 : decode cX5_grade 41 = .ok (.iload_n 1, 1) := by decide +kernel
theorem dX5_grade_42 : decode cX5_grade 42 = .ok (.iload_n 2, 1) := by decide +kernel
theorem dX5_grade_43 : decode cX5_grade 43 = .ok (.iastore, 1) := by decide +kernel
theorem dX5_grade_44 : decode cX5_grade 44 = .ok (.iload_n 3, 1) := by decide +kernel
theorem dX5_grade_45 : decode cX5_grade 45 = .ok (.ireturn, 1) := by decide +kernel
set_option maxRecDepth 20000 in
theorem ggX5_feature_X5_isAny : GoodIn wsX5_feature wsX5_isAny := goodIn_ca (goodIn_r _ [8, 9, 10, 11, 7, 12, 13, 14, 15, 16, 20, 21, 22, 23, 24, 25, 26, 27, 28, 29, 30, 31, 32, 33, 34, 35, 36, 37, 38, 39, 40, 41, 42, 43] (by decide +kernel) (by decide +kernel)) (goodIn_sub (fun _ h => List.mem_cons_of_mem _ (List.mem_append_left _ (List.mem_append_right _ h))) (by decide +kernel))
set_option maxRecDepth 20000 in
theorem gX5_feature_X5_isAny : GoodIn wsX5_feature (wsV RX5 81 RX5 yX5_isAny wsX5_isAny) := goodIn_app (goodIn_of _ (by decide +kernel)) ggX5_feature_X5_isAny
set_option maxRecDepth 20000 in
theorem ggX5_feature_X5_in : GoodIn wsX5_feature wsX5_in := goodIn_r _ [16] (by decide +kernel) (by decide +kernel)
set_option maxRecDepth 20000 in
theorem gX5_feature_X5_in : GoodIn wsX5_feature (va_wsS RX5 73 yX5_in wsX5_in) := goodIn_app (goodIn_of _ (by decide +kernel)) ggX5_feature_X5_in
set_option maxRecDepth 20000 in
theorem ggX5_feature_X5_at : GoodIn wsX5_feature wsX5_at := goodIn_r _ [19] (by decide +kernel) (by decide +kernel)
set_option maxRecDepth 20000 in
theorem gX5_feature_X5_at : GoodIn wsX5_feature (va_wsS RX5 84 yX5_at wsX5_at) := goodIn_app (goodIn_of _ (by decide +kernel)) ggX5_feature_X5_at
theorem dX5_feature_0 : decode cX5_feature 0 = .ok (.aload_n 0, 1) := by decide +kernel
theorem dX5_feature_1 : decode cX5_feature 1 = .ok (.iconst 0, 1) := by decide +kernel
theorem dX5_feature_2 : decode cX5_feature 2 = .ok (.putfield 70, 3) := by decide +kernel
theorem dX5_feature_5 : decode cX5_feature 5 = .ok (.aload_n 0, 1) := by decide +kernel
theorem dX5_feature_6 : decode cX5_feature 6 = .ok (.iload_n 1, 1) := by decide +kernel
theorem dX5_feature_7 : decode cX5_feature 7 = .ok (.invokevirtual 81, 3) := by decide +kernel
theorem dX5_feature_10 : decode cX5_feature 10 = .ok (.ifCond .ne 7, 3) := by decide +kernel
theorem dX5_feature_13 : decode cX5_feature 13 = .ok (.sipush (-10001), 3) := by decide +kernel
theorem dX5_feature_16 : decode cX5_feature 16 = .ok (.ireturn, 1) := by decide +kernel
theorem dX5_feature_17 : decode cX5_feature 17 = .ok (.iload_n 2, 1) := by decide +kernel
theorem dX5_feature_18 : decode cX5_feature 18 = .ok (.iconst 0, 1) := by decide +kernel
theorem dX5_feature_19 : decode cX5_feature 19 = .ok (.iconst 3, 1) := by decide +kernel
theorem dX5_feature_20 : decode cX5_feature 20 = .ok (.invokestatic 73, 3) := by decide +kernel
theorem dX5_feature_23 : decode cX5_feature 23 = .ok (.ifCond .eq 16, 3) := by decide +kernel
theorem dX5_feature_26 : decode cX5_feature 26 = .ok (.iload_n 3, 1) := by decide +kernel
theorem dX5_feature_27 : decode cX5_feature 27 = .ok (.sipush (-1000), 3) := by decide +kernel
theorem dX5_feature_30 : decode cX5_feature 30 = .ok (.sipush 1000, 3) := by decide +kernel
theorem dX5_feature_33 : decode cX5_feature 33 = .ok (.invokestatic 73, 3) := by decide +kernel
theorem dX5_feature_36 : decode cX5_feature 36 = .ok (.ifCond .ne 7, 3) := by decide +kernel
theorem dX5_feature_39 : decode cX5_feature 39 = .ok (.sipush (-10002), 3) := by decide +kernel
theorem dX5_feature_42 : decode cX5_feature 42 = .ok (.ireturn, 1) := by decide +kernel
theorem dX5_feature_43 : decode cX5_feature 43 = .ok (.aload_n 0, 1) := by decide +kernel
theorem dX5_feature_44 : decode cX5_feature 44 = .ok (.getfield 19, 3) := by decide +kernel
theorem dX5_feature_47 : decode cX5_feature 47 = .ok (.iload_n 1, 1) := by decide +kernel
theorem dX5_feature_48 : decode cX5_feature 48 = .ok (.invokestatic 84, 3) := by decide +kernel
theorem dX5_feature_51 : decode cX5_feature 51 = .ok (.iload_n 2, 1) := by decide +kernel
theorem dX5_feature_52 : decode cX5_feature 52 = .ok (.iadd, 1) := by decide +kernel
theorem dX5_feature_53 : decode cX5_feature 53 = .ok (.baload, 1) := by decide +kernel
theorem dX5_feature_54 : decode cX5_feature 54 = .ok (.ifCond .eq 7, 3) := by decide +kernel
theorem dX5_feature_57 : decode cX5_feature 57 = .ok (.iconst 1, 1) := by decide +kernel
theorem dX5_feature_58 : decode cX5_feature 58 = .ok (.goto 4, 3) := by decide +kernel
theorem dX5_feature_61 : decode cX5_feature 61 = .ok (.iconst 0, 1) := by decide +kernel
theorem dX5_feature_62 : decode cX5_feature 62 = .ok (.istore 4, 2) := by decide +kernel
theorem dX5_feature_64 : decode cX5_feature 64 = .ok (.aload_n 0, 1) := by decide +kernel
theorem dX5_feature_65 : decode cX5_feature 65 = .ok (.getfield 19, 3) := by decide +kernel
theorem dX5_feature_68 : decode cX5_feature 68 = .ok (.iload_n 1, 1) := by decide +kernel
theorem dX5_feature_69 : decode cX5_feature 69 = .ok (.invokestatic 84, 3) := by decide +kernel
theorem dX5_feature_72 : decode cX5_feature 72 = .ok (.iload_n 2, 1) := by decide +kernel
theorem dX5_feature_73 : decode cX5_feature 73 = .ok (.iadd, 1) := by decide +kernel
theorem dX5_feature_74 : decode cX5_feature 74 = .ok (.iconst 1, 1) := by decide +kernel
theorem dX5_feature_75 : decode cX5_feature 75 = .ok (.bastore, 1) := by decide +kernel
theorem dX5_feature_76 : decode cX5_feature 76 = .ok (.aload_n 0, 1) := by decide +kernel
theorem dX5_feature_77 : decode cX5_feature 77 = .ok (.getfield 16, 3) := by decide +kernel
theorem dX5_feature_80 : decode cX5_feature 80 = .ok (.iload_n 1, 1) := by decide +kernel
theorem dX5_feature_81 : decode cX5_feature 81 = .ok (.invokestatic 84, 3) := by decide +kernel
theorem dX5_feature_84 : decode cX5_feature 84 = .ok (.iload_n 2, 1) := by decide +kernel
theorem dX5_feature_85 : decode cX5_feature 85 = .ok (.iadd, 1) := by decide +kernel
theorem dX5_feature_86 : decode cX5_feature 86 = .ok (.iload_n 3, 1) := by decide +kernel
theorem dX5_feature_87 : decode cX5_feature 87 = .ok (.iastore, 1) := by decide +kernel
theorem dX5_feature_88 : decode cX5_feature 88 = .ok (.iload 4, 2) := by decide +kernel
theorem dX5_feature_90 : decode cX5_feature 90 = .ok (.ireturn, 1) := by decide +kernel
set_option maxRecDepth 20000 in
theorem ggX5_miss_X5_isAny : GoodIn wsX5_miss wsX5_isAny := goodIn_ca (goodIn_r _ [7, 8, 9, 10, 6, 11, 12, 13, 14, 15, 19, 20, 21, 22, 23, 24, 25, 26, 27, 28, 29, 30, 31, 32, 33, 34, 35, 36, 37, 38, 39, 40, 41, 42] (by decide +kernel) (by decide +kernel)) (goodIn_sub (fun _ h => List.mem_cons_of_mem _ (List.mem_append_left _ (List.mem_append_right _ h))) (by decide +kernel))
set_option maxRecDepth 20000 in
theorem gX5_miss_X5_isAny : GoodIn wsX5_miss (wsV RX5 81 RX5 yX5_isAny wsX5_isAny) := goodIn_app (goodIn_of _ (by decide +kernel)) ggX5_miss_X5_isAny
set_option maxRecDepth 20000 in
theorem ggX5_miss_X5_in : GoodIn wsX5_miss wsX5_in := goodIn_r _ [15] (by decide +kernel) (by decide +kernel)
set_option maxRecDepth 20000 in
theorem gX5_miss_X5_in : GoodIn wsX5_miss (va_wsS RX5 73 yX5_in wsX5_in) := goodIn_app (goodIn_of _ (by decide +kernel)) ggX5_miss_X5_in
set_option maxRecDepth 20000 in
theorem ggX5_miss_X5_at : GoodIn wsX5_miss wsX5_at := goodIn_r _ [18] (by decide +kernel) (by decide +kernel)
set_option maxRecDepth 20000 in
theorem gX5_miss_X5_at : GoodIn wsX5_miss (va_wsS RX5 84 yX5_at wsX5_at) := goodIn_app (goodIn_of _ (by decide +kernel)) ggX5_miss_X5_at
theorem dX5_miss_0 : decode cX5_miss 0 = .ok (.aload_n 0, 1) := by decide +kernel
theorem dX5_miss_1 : decode cX5_miss 1 = .ok (.iconst 0, 1) := by decide +kernel
theorem dX5_miss_2 : decode cX5_miss 2 = .ok (.putfield 70, 3) := by decide +kernel
theorem dX5_miss_5 : decode cX5_miss 5 = .ok (.aload_n 0, 1) := by decide +kernel
theorem dX5_miss_6 : decode cX5_miss 6 = .ok (.iload_n 1, 1) := by decide +kernel
theorem dX5_miss_7 : decode cX5_miss 7 = .ok (.invokevirtual 81, 3) := by decide +kernel
theorem dX5_miss_10 : decode cX5_miss 10 = .ok (.ifCond .ne 7, 3) := by decide +kernel
theorem dX5_miss_13 : decode cX5_miss 13 = .ok (.sipush (-10001), 3) := by decide +kernel
theorem dX5_miss_16 : decode cX5_miss 16 = .ok (.ireturn, 1) := by decide +kernel
theorem dX5_miss_17 : decode cX5_miss 17 = .ok (.iload_n 2, 1) := by decide +kernel
theorem dX5_miss_18 : decode cX5_miss 18 = .ok (.iconst 0, 1) := by decide +kernel
theorem dX5_miss_19 : decode cX5_miss 19 = .ok (.iconst 3, 1) := by decide +kernel
theorem dX5_miss_20 : decode cX5_miss 20 = .ok (.invokestatic 73, 3) := by decide +kernel
theorem dX5_miss_23 : decode cX5_miss 23 = .ok (.ifCond .ne 7, 3) := by decide +kernel
theorem dX5_miss_26 : decode cX5_miss 26 = .ok (.sipush (-10002), 3) := by decide +kernel
theorem dX5_miss_29 : decode cX5_miss 29 = .ok (.ireturn, 1) := by decide +kernel
theorem dX5_miss_30 : decode cX5_miss 30 = .ok (.aload_n 0, 1) := by decide +kernel
theorem dX5_miss_31 : decode cX5_miss 31 = .ok (.getfield 19, 3) := by decide +kernel
theorem dX5_miss_34 : decode cX5_miss 34 = .ok (.iload_n 1, 1) := by decide +kernel
theorem dX5_miss_35 : decode cX5_miss 35 = .ok (.invokestatic 84, 3) := by decide +kernel
theorem dX5_miss_38 : decode cX5_miss 38 = .ok (.iload_n 2, 1) := by decide +kernel
theorem dX5_miss_39 : decode cX5_miss 39 = .ok (.iadd, 1) := by decide +kernel
theorem dX5_miss_40 : decode cX5_miss 40 = .ok (.baload, 1) := by decide +kernel
theorem dX5_miss_41 : decode cX5_miss 41 = .ok (.ifCond .eq 7, 3) := by decide +kernel
theorem dX5_miss_44 : decode cX5_miss 44 = .ok (.iconst 1, 1) := by decide +kernel
theorem dX5_miss_45 : decode cX5_miss 45 = .ok (.goto 4, 3) := by decide +kernel
theorem dX5_miss_48 : decode cX5_miss 48 = .ok (.iconst 0, 1) := by decide +kernel
theorem dX5_miss_49 : decode cX5_miss 49 = .ok (.istore_n 3, 1) := by decide +kernel
theorem dX5_miss_50 : decode cX5_miss 50 = .ok (.aload_n 0, 1) := by decide +kernel
theorem dX5_miss_51 : decode cX5_miss 51 = .ok (.getfield 19, 3) := by decide +kernel
theorem dX5_miss_54 : decode cX5_miss 54 = .ok (.iload_n 1, 1) := by decide +kernel
theorem dX5_miss_55 : decode cX5_miss 55 = .ok (.invokestatic 84, 3) := by decide +kernel
theorem dX5_miss_58 : decode cX5_miss 58 = .ok (.iload_n 2, 1) := by decide +kernel
theorem dX5_miss_59 : decode cX5_miss 59 = .ok (.iadd, 1) := by decide +kernel
theorem dX5_miss_60 : decode cX5_miss 60 = .ok (.iconst 0, 1) := by decide +kernel
theorem dX5_miss_61 : decode cX5_miss 61 = .ok (.bastore, 1) := by decide +kernel
theorem dX5_miss_62 : decode cX5_miss 62 = .ok (.iload_n 3, 1) := by decide +kernel
theorem dX5_miss_63 : decode cX5_miss 63 = .ok (.ireturn, 1) := by decide +kernel
set_option maxRecDepth 20000 in
theorem ggX5_told_X5_in : GoodIn wsX5_told wsX5_in := goodIn_r _ [8] (by decide +kernel) (by decide +kernel)
set_option maxRecDepth 20000 in
theorem gX5_told_X5_in : GoodIn wsX5_told (va_wsS RX5 73 yX5_in wsX5_in) := goodIn_app (goodIn_of _ (by decide +kernel)) ggX5_told_X5_in
theorem dX5_told_0 : decode cX5_told 0 = .ok (.aload_n 0, 1) := by decide +kernel
theorem dX5_told_1 : decode cX5_told 1 = .ok (.iload_n 1, 1) := by decide +kernel
theorem dX5_told_2 : decode cX5_told 2 = .ok (.iconst 0, 1) := by decide +kernel
theorem dX5_told_3 : decode cX5_told 3 = .ok (.bipush 23, 2) := by decide +kernel
theorem dX5_told_5 : decode cX5_told 5 = .ok (.invokestatic 73, 3) := by decide +kernel
theorem dX5_told_8 : decode cX5_told 8 = .ok (.ifCond .ne 7, 3) := by decide +kernel
theorem dX5_told_11 : decode cX5_told 11 = .ok (.iconst 2, 1) := by decide +kernel
theorem dX5_told_12 : decode cX5_told 12 = .ok (.goto 46, 3) := by decide +kernel
theorem dX5_told_15 : decode cX5_told 15 = .ok (.iload_n 1, 1) := by decide +kernel
theorem dX5_told_16 : decode cX5_told 16 = .ok (.aload_n 0, 1) := by decide +kernel
theorem dX5_told_17 : decode cX5_told 17 = .ok (.getfield 63, 3) := by decide +kernel
theorem dX5_told_20 : decode cX5_told 20 = .ok (.if_icmp .lt 7, 3) := by decide +kernel
theorem dX5_told_23 : decode cX5_told 23 = .ok (.iconst 1, 1) := by decide +kernel
theorem dX5_told_24 : decode cX5_told 24 = .ok (.goto 34, 3) := by decide +kernel
theorem dX5_told_27 : decode cX5_told 27 = .ok (.iload_n 2, 1) := by decide +kernel
theorem dX5_told_28 : decode cX5_told 28 = .ok (.iconst 0, 1) := by decide +kernel
theorem dX5_told_29 : decode cX5_told 29 = .ok (.iconst 3, 1) := by decide +kernel
theorem dX5_told_30 : decode cX5_told 30 = .ok (.invokestatic 73, 3) := by decide +kernel
theorem dX5_told_33 : decode cX5_told 33 = .ok (.ifCond .ne 7, 3) := by decide +kernel
theorem dX5_told_36 : decode cX5_told 36 = .ok (.iconst 2, 1) := by decide +kernel
theorem dX5_told_37 : decode cX5_told 37 = .ok (.goto 21, 3) := by decide +kernel
theorem dX5_told_40 : decode cX5_told 40 = .ok (.aload_n 0, 1) := by decide +kernel
theorem dX5_told_41 : decode cX5_told 41 = .ok (.getfield 19, 3) := by decide +kernel
theorem dX5_told_44 : decode cX5_told 44 = .ok (.iconst 4, 1) := by decide +kernel
theorem dX5_told_45 : decode cX5_told 45 = .ok (.iload_n 1, 1) := by decide +kernel
theorem dX5_told_46 : decode cX5_told 46 = .ok (.imul, 1) := by decide +kernel
theorem dX5_told_47 : decode cX5_told 47 = .ok (.iload_n 2, 1) := by decide +kernel
theorem dX5_told_48 : decode cX5_told 48 = .ok (.iadd, 1) := by decide +kernel
theorem dX5_told_49 : decode cX5_told 49 = .ok (.baload, 1) := by decide +kernel
theorem dX5_told_50 : decode cX5_told 50 = .ok (.ifCond .eq 7, 3) := by decide +kernel
theorem dX5_told_53 : decode cX5_told 53 = .ok (.iconst 0, 1) := by decide +kernel
theorem dX5_told_54 : decode cX5_told 54 = .ok (.goto 4, 3) := by decide +kernel
theorem dX5_told_57 : decode cX5_told 57 = .ok (.iconst 1, 1) := by decide +kernel
theorem dX5_told_58 : decode cX5_told 58 = .ok (.putfield 70, 3) := by decide +kernel
theorem dX5_told_61 : decode cX5_told 61 = .ok (.aload_n 0, 1) := by decide +kernel
theorem dX5_told_62 : decode cX5_told 62 = .ok (.getfield 70, 3) := by decide +kernel
theorem dX5_told_65 : decode cX5_told 65 = .ok (.ifCond .le 7, 3) := by decide +kernel
theorem dX5_told_68 : decode cX5_told 68 = .ok (.iconst 0, 1) := by decide +kernel
theorem dX5_told_69 : decode cX5_told 69 = .ok (.goto 13, 3) := by decide +kernel
theorem dX5_told_72 : decode cX5_told 72 = .ok (.aload_n 0, 1) := by decide +kernel
theorem dX5_told_73 : decode cX5_told 73 = .ok (.getfield 16, 3) := by decide +kernel
theorem dX5_told_76 : decode cX5_told 76 = .ok (.iconst 4, 1) := by decide +kernel
theorem dX5_told_77 : decode cX5_told 77 = .ok (.iload_n 1, 1) := by decide +kernel
theorem dX5_told_78 : decode cX5_told 78 = .ok (.imul, 1) := by decide +kernel
theorem dX5_told_79 : decode cX5_told 79 = .ok (.iload_n 2, 1) := by decide +kernel
theorem dX5_told_80 : decode cX5_told 80 = .ok (.iadd, 1) := by decide +kernel
theorem dX5_told_81 : decode cX5_told 81 = .ok (.iaload, 1) := by decide +kernel
theorem dX5_told_82 : decode cX5_told 82 = .ok (.ireturn, 1) := by decide +kernel
set_option maxRecDepth 20000 in
theorem ggX5_setting_X5_in : GoodIn wsX5_setting wsX5_in := goodIn_r _ [6] (by decide +kernel) (by decide +kernel)
set_option maxRecDepth 20000 in
theorem gX5_setting_X5_in : GoodIn wsX5_setting (va_wsS RX5 73 yX5_in wsX5_in) := goodIn_app (goodIn_of _ (by decide +kernel)) ggX5_setting_X5_in
theorem dX5_setting_0 : decode cX5_setting 0 = .ok (.aload_n 0, 1) := by decide +kernel
theorem dX5_setting_1 : decode cX5_setting 1 = .ok (.iconst 0, 1) := by decide +kernel
theorem dX5_setting_2 : decode cX5_setting 2 = .ok (.putfield 70, 3) := by decide +kernel
theorem dX5_setting_5 : decode cX5_setting 5 = .ok (.iload_n 1, 1) := by decide +kernel
theorem dX5_setting_6 : decode cX5_setting 6 = .ok (.ifCond .ne 14, 3) := by decide +kernel
theorem dX5_setting_9 : decode cX5_setting 9 = .ok (.iload_n 2, 1) := by decide +kernel
theorem dX5_setting_10 : decode cX5_setting 10 = .ok (.iconst 0, 1) := by decide +kernel
theorem dX5_setting_11 : decode cX5_setting 11 = .ok (.sipush 1000, 3) := by decide +kernel
theorem dX5_setting_14 : decode cX5_setting 14 = .ok (.invokestatic 73, 3) := by decide +kernel
theorem dX5_setting_17 : decode cX5_setting 17 = .ok (.goto 52, 3) := by decide +kernel
theorem dX5_setting_20 : decode cX5_setting 20 = .ok (.iload_n 1, 1) := by decide +kernel
theorem dX5_setting_21 : decode cX5_setting 21 = .ok (.iconst 1, 1) := by decide +kernel
theorem dX5_setting_22 : decode cX5_setting 22 = .ok (.if_icmp .ne 13, 3) := by decide +kernel
theorem dX5_setting_25 : decode cX5_setting 25 = .ok (.iload_n 2, 1) := by decide +kernel
theorem dX5_setting_26 : decode cX5_setting 26 = .ok (.iconst 1, 1) := by decide +kernel
theorem dX5_setting_27 : decode cX5_setting 27 = .ok (.bipush 100, 2) := by decide +kernel
theorem dX5_setting_29 : decode cX5_setting 29 = .ok (.invokestatic 73, 3) := by decide +kernel
theorem dX5_setting_32 : decode cX5_setting 32 = .ok (.goto 37, 3) := by decide +kernel
theorem dX5_setting_35 : decode cX5_setting 35 = .ok (.iload_n 1, 1) := by decide +kernel
theorem dX5_setting_36 : decode cX5_setting 36 = .ok (.iconst 2, 1) := by decide +kernel
theorem dX5_setting_37 : decode cX5_setting 37 = .ok (.if_icmp .ne 12, 3) := by decide +kernel
theorem dX5_setting_40 : decode cX5_setting 40 = .ok (.iload_n 2, 1) := by decide +kernel
theorem dX5_setting_41 : decode cX5_setting 41 = .ok (.iconst 1, 1) := by decide +kernel
theorem dX5_setting_42 : decode cX5_setting 42 = .ok (.iconst 3, 1) := by decide +kernel
theorem dX5_setting_43 : decode cX5_setting 43 = .ok (.invokestatic 73, 3) := by decide +kernel
theorem dX5_setting_46 : decode cX5_setting 46 = .ok (.goto 23, 3) := by decide +kernel
theorem dX5_setting_49 : decode cX5_setting 49 = .ok (.iload_n 1, 1) := by decide +kernel
theorem dX5_setting_50 : decode cX5_setting 50 = .ok (.iconst 3, 1) := by decide +kernel
theorem dX5_setting_51 : decode cX5_setting 51 = .ok (.if_icmp .ne 17, 3) := by decide +kernel
theorem dX5_setting_54 : decode cX5_setting 54 = .ok (.iload_n 2, 1) := by decide +kernel
theorem dX5_setting_55 : decode cX5_setting 55 = .ok (.iconst 1, 1) := by decide +kernel
theorem dX5_setting_56 : decode cX5_setting 56 = .ok (.bipush 8, 2) := by decide +kernel
theorem dX5_setting_58 : decode cX5_setting 58 = .ok (.invokestatic 73, 3) := by decide +kernel
theorem dX5_setting_61 : decode cX5_setting 61 = .ok (.ifCond .eq 7, 3) := by decide +kernel
theorem dX5_setting_64 : decode cX5_setting 64 = .ok (.iconst 1, 1) := by decide +kernel
theorem dX5_setting_65 : decode cX5_setting 65 = .ok (.goto 4, 3) := by decide +kernel
theorem dX5_setting_68 : decode cX5_setting 68 = .ok (.iconst 0, 1) := by decide +kernel
theorem dX5_setting_69 : decode cX5_setting 69 = .ok (.istore_n 3, 1) := by decide +kernel
theorem dX5_setting_70 : decode cX5_setting 70 = .ok (.iload_n 3, 1) := by decide +kernel
theorem dX5_setting_71 : decode cX5_setting 71 = .ok (.ifCond .ne 7, 3) := by decide +kernel
theorem dX5_setting_74 : decode cX5_setting 74 = .ok (.sipush (-10002), 3) := by decide +kernel
theorem dX5_setting_77 : decode cX5_setting 77 = .ok (.ireturn, 1) := by decide +kernel
theorem dX5_setting_78 : decode cX5_setting 78 = .ok (.aload_n 0, 1) := by decide +kernel
theorem dX5_setting_79 : decode cX5_setting 79 = .ok (.getfield 23, 3) := by decide +kernel
theorem dX5_setting_82 : decode cX5_setting 82 = .ok (.iload_n 1, 1) := by decide +kernel
theorem dX5_setting_83 : decode cX5_setting 83 = .ok (.iaload, 1) := by decide +kernel
theorem dX5_setting_84 : decode cX5_setting 84 = .ok (.istore 4, 2) := by decide +kernel
theorem dX5_setting_86 : decode cX5_setting 86 = .ok (.aload_n 0, 1) := by decide +kernel
theorem dX5_setting_87 : decode cX5_setting 87 = .ok (.getfield 23, 3) := by decide +kernel
theorem dX5_setting_90 : decode cX5_setting 90 = .ok (.iload_n 1, 1) := by decide +kernel
theorem dX5_setting_91 : decode cX5_setting 91 = .ok (.iload_n 2, 1) := by decide +kernel
theorem dX5_setting_92 : decode cX5_setting 92 = .ok (.iastore, 1) := by decide +kernel
theorem dX5_setting_93 : decode cX5_setting 93 = .ok (.iload 4, 2) := by decide +kernel
theorem dX5_setting_95 : decode cX5_setting 95 = .ok (.ireturn, 1) := by decide +kernel
set_option maxRecDepth 20000 in
theorem ggX5_goesLeft_X5_at : GoodIn wsX5_goesLeft wsX5_at := goodIn_r _ [6] (by decide +kernel) (by decide +kernel)
set_option maxRecDepth 20000 in
theorem gX5_goesLeft_X5_at : GoodIn wsX5_goesLeft (va_wsS RX5 84 yX5_at wsX5_at) := goodIn_app (goodIn_of _ (by decide +kernel)) ggX5_goesLeft_X5_at
theorem dX5_goesLeft_0 : decode cX5_goesLeft 0 = .ok (.aload_n 0, 1) := by decide +kernel
theorem dX5_goesLeft_1 : decode cX5_goesLeft 1 = .ok (.getfield 19, 3) := by decide +kernel
theorem dX5_goesLeft_4 : decode cX5_goesLeft 4 = .ok (.iload_n 1, 1) := by decide +kernel
theorem dX5_goesLeft_5 : decode cX5_goesLeft 5 = .ok (.invokestatic 84, 3) := by decide +kernel
theorem dX5_goesLeft_8 : decode cX5_goesLeft 8 = .ok (.iload_n 2, 1) := by decide +kernel
theorem dX5_goesLeft_9 : decode cX5_goesLeft 9 = .ok (.iadd, 1) := by decide +kernel
theorem dX5_goesLeft_10 : decode cX5_goesLeft 10 = .ok (.baload, 1) := by decide +kernel
theorem dX5_goesLeft_11 : decode cX5_goesLeft 11 = .ok (.ifCond .eq 26, 3) := by decide +kernel
theorem dX5_goesLeft_14 : decode cX5_goesLeft 14 = .ok (.aload_n 0, 1) := by decide +kernel
theorem dX5_goesLeft_15 : decode cX5_goesLeft 15 = .ok (.getfield 16, 3) := by decide +kernel
theorem dX5_goesLeft_18 : decode cX5_goesLeft 18 = .ok (.iload_n 1, 1) := by decide +kernel
theorem dX5_goesLeft_19 : decode cX5_goesLeft 19 = .ok (.invokestatic 84, 3) := by decide +kernel
theorem dX5_goesLeft_22 : decode cX5_goesLeft 22 = .ok (.iload_n 2, 1) := by decide +kernel
theorem dX5_goesLeft_23 : decode cX5_goesLeft 23 = .ok (.iadd, 1) := by decide +kernel
theorem dX5_goesLeft_24 : decode cX5_goesLeft 24 = .ok (.iaload, 1) := by decide +kernel
theorem dX5_goesLeft_25 : decode cX5_goesLeft 25 = .ok (.iload_n 3, 1) := by decide +kernel
theorem dX5_goesLeft_26 : decode cX5_goesLeft 26 = .ok (.if_icmp .gt 7, 3) := by decide +kernel
theorem dX5_goesLeft_29 : decode cX5_goesLeft 29 = .ok (.iconst 1, 1) := by decide +kernel
theorem dX5_goesLeft_30 : decode cX5_goesLeft 30 = .ok (.goto 17, 3) := by decide +kernel
theorem dX5_goesLeft_33 : decode cX5_goesLeft 33 = .ok (.iconst 0, 1) := by decide +kernel
theorem dX5_goesLeft_34 : decode cX5_goesLeft 34 = .ok (.goto 13, 3) := by decide +kernel
theorem dX5_goesLeft_37 : decode cX5_goesLeft 37 = .ok (.iload 4, 2) := by decide +kernel
theorem dX5_goesLeft_39 : decode cX5_goesLeft 39 = .ok (.ifCond .ne 7, 3) := by decide +kernel
theorem dX5_goesLeft_42 : decode cX5_goesLeft 42 = .ok (.iconst 1, 1) := by decide +kernel
theorem dX5_goesLeft_43 : decode cX5_goesLeft 43 = .ok (.goto 4, 3) := by decide +kernel
theorem dX5_goesLeft_46 : decode cX5_goesLeft 46 = .ok (.iconst 0, 1) := by decide +kernel
theorem dX5_goesLeft_47 : decode cX5_goesLeft 47 = .ok (.ireturn, 1) := by decide +kernel
set_option maxRecDepth 20000 in
theorem ggX5_valueBy_X5_goesLeft : GoodIn wsX5_valueBy wsX5_goesLeft := goodIn_ca (goodIn_ca (goodIn_r _ [10, 11, 12, 13, 14, 9, 15, 16, 17, 18, 19, 20, 21, 22, 23, 24, 25, 26, 27, 28, 29, 30, 31, 32, 33, 34, 35, 36, 37, 38, 39] (by decide +kernel) (by decide +kernel)) (goodIn_sub (fun _ h => List.mem_cons_of_mem _ (List.mem_append_left _ (List.mem_append_right _ h))) (by decide +kernel))) (goodIn_sub (fun _ h => List.mem_cons_of_mem _ (List.mem_append_right _ h)) (by decide +kernel))
set_option maxRecDepth 20000 in
theorem gX5_valueBy_X5_goesLeft : GoodIn wsX5_valueBy (wsV RX5 88 RX5 yX5_goesLeft wsX5_goesLeft) := goodIn_app (goodIn_of _ (by decide +kernel)) ggX5_valueBy_X5_goesLeft
theorem dX5_valueBy_0 : decode cX5_valueBy 0 = .ok (.iconst 0, 1) := by decide +kernel
theorem dX5_valueBy_1 : decode cX5_valueBy 1 = .ok (.istore_n 3, 1) := by decide +kernel
theorem dX5_valueBy_2 : decode cX5_valueBy 2 = .ok (.aload_n 0, 1) := by decide +kernel
theorem dX5_valueBy_3 : decode cX5_valueBy 3 = .ok (.getfield 26, 3) := by decide +kernel
theorem dX5_valueBy_6 : decode cX5_valueBy 6 = .ok (.bipush 15, 2) := by decide +kernel
theorem dX5_valueBy_8 : decode cX5_valueBy 8 = .ok (.iload_n 1, 1) := by decide +kernel
theorem dX5_valueBy_9 : decode cX5_valueBy 9 = .ok (.imul, 1) := by decide +kernel
theorem dX5_valueBy_10 : decode cX5_valueBy 10 = .ok (.iload_n 3, 1) := by decide +kernel
theorem dX5_valueBy_11 : decode cX5_valueBy 11 = .ok (.iadd, 1) := by decide +kernel
theorem dX5_valueBy_12 : decode cX5_valueBy 12 = .ok (.iaload, 1) := by decide +kernel
theorem dX5_valueBy_13 : decode cX5_valueBy 13 = .ok (.iconst 2, 1) := by decide +kernel
theorem dX5_valueBy_14 : decode cX5_valueBy 14 = .ok (.if_icmp .ne 57, 3) := by decide +kernel
theorem dX5_valueBy_17 : decode cX5_valueBy 17 = .ok (.bipush 15, 2) := by decide +kernel
theorem dX5_valueBy_19 : decode cX5_valueBy 19 = .ok (.iload_n 1, 1) := by decide +kernel
theorem dX5_valueBy_20 : decode cX5_valueBy 20 = .ok (.imul, 1) := by decide +kernel
theorem dX5_valueBy_21 : decode cX5_valueBy 21 = .ok (.iload_n 3, 1) := by decide +kernel
theorem dX5_valueBy_22 : decode cX5_valueBy 22 = .ok (.iadd, 1) := by decide +kernel
theorem dX5_valueBy_23 : decode cX5_valueBy 23 = .ok (.istore 4, 2) := by decide +kernel
theorem dX5_valueBy_25 : decode cX5_valueBy 25 = .ok (.aload_n 0, 1) := by decide +kernel
theorem dX5_valueBy_26 : decode cX5_valueBy 26 = .ok (.iload_n 2, 1) := by decide +kernel
theorem dX5_valueBy_27 : decode cX5_valueBy 27 = .ok (.aload_n 0, 1) := by decide +kernel
theorem dX5_valueBy_28 : decode cX5_valueBy 28 = .ok (.getfield 29, 3) := by decide +kernel
theorem dX5_valueBy_31 : decode cX5_valueBy 31 = .ok (.iload 4, 2) := by decide +kernel
theorem dX5_valueBy_33 : decode cX5_valueBy 33 = .ok (.iaload, 1) := by decide +kernel
theorem dX5_valueBy_34 : decode cX5_valueBy 34 = .ok (.aload_n 0, 1) := by decide +kernel
theorem dX5_valueBy_35 : decode cX5_valueBy 35 = .ok (.getfield 32, 3) := by decide +kernel
theorem dX5_valueBy_38 : decode cX5_valueBy 38 = .ok (.iload 4, 2) := by decide +kernel
theorem dX5_valueBy_40 : decode cX5_valueBy 40 = .ok (.iaload, 1) := by decide +kernel
theorem dX5_valueBy_41 : decode cX5_valueBy 41 = .ok (.aload_n 0, 1) := by decide +kernel
theorem dX5_valueBy_42 : decode cX5_valueBy 42 = .ok (.getfield 35, 3) := by decide +kernel
theorem dX5_valueBy_45 : decode cX5_valueBy 45 = .ok (.iload 4, 2) := by decide +kernel
theorem dX5_valueBy_47 : decode cX5_valueBy 47 = .ok (.iaload, 1) := by decide +kernel
theorem dX5_valueBy_48 : decode cX5_valueBy 48 = .ok (.invokevirtual 88, 3) := by decide +kernel
theorem dX5_valueBy_51 : decode cX5_valueBy 51 = .ok (.ifCond .eq 11, 3) := by decide +kernel
theorem dX5_valueBy_54 : decode cX5_valueBy 54 = .ok (.iconst 2, 1) := by decide +kernel
theorem dX5_valueBy_55 : decode cX5_valueBy 55 = .ok (.iload_n 3, 1) := by decide +kernel
theorem dX5_valueBy_56 : decode cX5_valueBy 56 = .ok (.imul, 1) := by decide +kernel
theorem dX5_valueBy_57 : decode cX5_valueBy 57 = .ok (.iconst 1, 1) := by decide +kernel
theorem dX5_valueBy_58 : decode cX5_valueBy 58 = .ok (.iadd, 1) := by decide +kernel
theorem dX5_valueBy_59 : decode cX5_valueBy 59 = .ok (.goto 8, 3) := by decide +kernel
theorem dX5_valueBy_62 : decode cX5_valueBy 62 = .ok (.iconst 2, 1) := by decide +kernel
theorem dX5_valueBy_63 : decode cX5_valueBy 63 = .ok (.iload_n 3, 1) := by decide +kernel
theorem dX5_valueBy_64 : decode cX5_valueBy 64 = .ok (.imul, 1) := by decide +kernel
theorem dX5_valueBy_65 : decode cX5_valueBy 65 = .ok (.iconst 2, 1) := by decide +kernel
theorem dX5_valueBy_66 : decode cX5_valueBy 66 = .ok (.iadd, 1) := by decide +kernel
theorem dX5_valueBy_67 : decode cX5_valueBy 67 = .ok (.istore_n 3, 1) := by decide +kernel
theorem dX5_valueBy_68 : decode cX5_valueBy 68 = .ok (.goto (-66), 3) := by decide +kernel
theorem dX5_valueBy_71 : decode cX5_valueBy 71 = .ok (.aload_n 0, 1) := by decide +kernel
theorem dX5_valueBy_72 : decode cX5_valueBy 72 = .ok (.getfield 38, 3) := by decide +kernel
theorem dX5_valueBy_75 : decode cX5_valueBy 75 = .ok (.bipush 15, 2) := by decide +kernel
theorem dX5_valueBy_77 : decode cX5_valueBy 77 = .ok (.iload_n 1, 1) := by decide +kernel
theorem dX5_valueBy_78 : decode cX5_valueBy 78 = .ok (.imul, 1) := by decide +kernel
theorem dX5_valueBy_79 : decode cX5_valueBy 79 = .ok (.iload_n 3, 1) := by decide +kernel
theorem dX5_valueBy_80 : decode cX5_valueBy 80 = .ok (.iadd, 1) := by decide +kernel
theorem dX5_valueBy_81 : decode cX5_valueBy 81 = .ok (.iaload, 1) := by decide +kernel
theorem dX5_valueBy_82 : decode cX5_valueBy 82 = .ok (.ireturn, 1) := by decide +kernel
set_option maxRecDepth 20000 in
theorem ggX5_scoreOf_X5_valueBy : GoodIn wsX5_scoreOf wsX5_valueBy := goodIn_ca (goodIn_ca (goodIn_r _ [6, 7, 8, 9, 10, 11, 12, 13, 14, 5, 15, 16, 17, 18, 19, 20, 21, 22, 23, 24, 25, 26, 27, 28, 29, 30, 31, 32, 33, 34, 35, 36, 37, 38, 39, 40, 41, 42, 43, 44] (by decide +kernel) (by decide +kernel)) (goodIn_sub (fun _ h => List.mem_cons_of_mem _ (List.mem_append_right _ h)) (by decide +kernel))) (goodIn_sub (fun _ h => List.mem_cons_of_mem _ (List.mem_append_left _ (List.mem_append_right _ h))) (by decide +kernel))
set_option maxRecDepth 20000 in
theorem gX5_scoreOf_X5_valueBy : GoodIn wsX5_scoreOf (wsV RX5 92 RX5 yX5_valueBy wsX5_valueBy) := goodIn_app (goodIn_of _ (by decide +kernel)) ggX5_scoreOf_X5_valueBy
theorem dX5_scoreOf_0 : decode cX5_scoreOf 0 = .ok (.lconst 0, 1) := by decide +kernel
theorem dX5_scoreOf_1 : decode cX5_scoreOf 1 = .ok (.lstore_n 2, 1) := by decide +kernel
theorem dX5_scoreOf_2 : decode cX5_scoreOf 2 = .ok (.iconst 0, 1) := by decide +kernel
theorem dX5_scoreOf_3 : decode cX5_scoreOf 3 = .ok (.istore 4, 2) := by decide +kernel
theorem dX5_scoreOf_5 : decode cX5_scoreOf 5 = .ok (.iload 4, 2) := by decide +kernel
theorem dX5_scoreOf_7 : decode cX5_scoreOf 7 = .ok (.aload_n 0, 1) := by decide +kernel
theorem dX5_scoreOf_8 : decode cX5_scoreOf 8 = .ok (.getfield 67, 3) := by decide +kernel
theorem dX5_scoreOf_11 : decode cX5_scoreOf 11 = .ok (.if_icmp .ge 20, 3) := by decide +kernel
theorem dX5_scoreOf_14 : decode cX5_scoreOf 14 = .ok (.lload_n 2, 1) := by decide +kernel
theorem dX5_scoreOf_15 : decode cX5_scoreOf 15 = .ok (.aload_n 0, 1) := by decide +kernel
theorem dX5_scoreOf_16 : decode cX5_scoreOf 16 = .ok (.iload 4, 2) := by decide +kernel
theorem dX5_scoreOf_18 : decode cX5_scoreOf 18 = .ok (.iload_n 1, 1) := by decide +kernel
theorem dX5_scoreOf_19 : decode cX5_scoreOf 19 = .ok (.invokevirtual 92, 3) := by decide +kernel
theorem dX5_scoreOf_22 : decode cX5_scoreOf 22 = .ok (.i2l, 1) := by decide +kernel
theorem dX5_scoreOf_23 : decode cX5_scoreOf 23 = .ok (.ladd, 1) := by decide +kernel
theorem dX5_scoreOf_24 : decode cX5_scoreOf 24 = .ok (.lstore_n 2, 1) := by decide +kernel
theorem dX5_scoreOf_25 : decode cX5_scoreOf 25 = .ok (.iinc 4 1, 3) := by decide +kernel
theorem dX5_scoreOf_28 : decode cX5_scoreOf 28 = .ok (.goto (-23), 3) := by decide +kernel
theorem dX5_scoreOf_31 : decode cX5_scoreOf 31 = .ok (.lload_n 2, 1) := by decide +kernel
theorem dX5_scoreOf_32 : decode cX5_scoreOf 32 = .ok (.lreturn, 1) := by decide +kernel
theorem dX5_isPair_0 : decode cX5_isPair 0 = .ok (.aload_n 0, 1) := by decide +kernel
theorem dX5_isPair_1 : decode cX5_isPair 1 = .ok (.getfield 7, 3) := by decide +kernel
theorem dX5_isPair_4 : decode cX5_isPair 4 = .ok (.iload_n 1, 1) := by decide +kernel
theorem dX5_isPair_5 : decode cX5_isPair 5 = .ok (.iaload, 1) := by decide +kernel
theorem dX5_isPair_6 : decode cX5_isPair 6 = .ok (.aload_n 0, 1) := by decide +kernel
theorem dX5_isPair_7 : decode cX5_isPair 7 = .ok (.getfield 7, 3) := by decide +kernel
theorem dX5_isPair_10 : decode cX5_isPair 10 = .ok (.iload_n 2, 1) := by decide +kernel
theorem dX5_isPair_11 : decode cX5_isPair 11 = .ok (.iaload, 1) := by decide +kernel
theorem dX5_isPair_12 : decode cX5_isPair 12 = .ok (.if_icmp .ne 22, 3) := by decide +kernel
theorem dX5_isPair_15 : decode cX5_isPair 15 = .ok (.aload_n 0, 1) := by decide +kernel
theorem dX5_isPair_16 : decode cX5_isPair 16 = .ok (.getfield 13, 3) := by decide +kernel
theorem dX5_isPair_19 : decode cX5_isPair 19 = .ok (.iload_n 1, 1) := by decide +kernel
theorem dX5_isPair_20 : decode cX5_isPair 20 = .ok (.iaload, 1) := by decide +kernel
theorem dX5_isPair_21 : decode cX5_isPair 21 = .ok (.aload_n 0, 1) := by decide +kernel
theorem dX5_isPair_22 : decode cX5_isPair 22 = .ok (.getfield 13, 3) := by decide +kernel
theorem dX5_isPair_25 : decode cX5_isPair 25 = .ok (.iload_n 2, 1) := by decide +kernel
theorem dX5_isPair_26 : decode cX5_isPair 26 = .ok (.iaload, 1) := by decide +kernel
theorem dX5_isPair_27 : decode cX5_isPair 27 = .ok (.if_icmp .le 7, 3) := by decide +kernel
theorem dX5_isPair_30 : decode cX5_isPair 30 = .ok (.iconst 1, 1) := by decide +kernel
theorem dX5_isPair_31 : decode cX5_isPair 31 = .ok (.goto 4, 3) := by decide +kernel
theorem dX5_isPair_34 : decode cX5_isPair 34 = .ok (.iconst 0, 1) := by decide +kernel
theorem dX5_isPair_35 : decode cX5_isPair 35 = .ok (.ireturn, 1) := by decide +kernel
set_option maxRecDepth 20000 in
theorem ggX5_score_X5_scoreOf : GoodIn wsX5_score wsX5_scoreOf := goodIn_ca (goodIn_ca (goodIn_r _ [7, 8, 9, 10, 11, 6, 12, 13, 14, 15, 16, 17, 18, 19, 20, 21, 22, 23, 24, 25, 26, 27, 28, 29, 30, 31, 32, 33, 34, 35, 36, 37, 38, 39, 40, 41, 42, 43, 44, 45, 46, 47, 48, 49, 50] (by decide +kernel) (by decide +kernel)) (goodIn_sub (fun _ h => List.mem_cons_of_mem _ (List.mem_append_left _ (List.mem_append_right _ h))) (by decide +kernel))) (goodIn_sub (fun _ h => List.mem_cons_of_mem _ (List.mem_append_right _ h)) (by decide +kernel))
set_option maxRecDepth 20000 in
theorem gX5_score_X5_scoreOf : GoodIn wsX5_score (wsV RX5 96 RX5 yX5_scoreOf wsX5_scoreOf) := goodIn_app (goodIn_of _ (by decide +kernel)) ggX5_score_X5_scoreOf
theorem dX5_score_0 : decode cX5_score 0 = .ok (.iconst 0, 1) := by decide +kernel
theorem dX5_score_1 : decode cX5_score 1 = .ok (.istore_n 1, 1) := by decide +kernel
theorem dX5_score_2 : decode cX5_score 2 = .ok (.iload_n 1, 1) := by decide +kernel
theorem dX5_score_3 : decode cX5_score 3 = .ok (.aload_n 0, 1) := by decide +kernel
theorem dX5_score_4 : decode cX5_score 4 = .ok (.getfield 63, 3) := by decide +kernel
theorem dX5_score_7 : decode cX5_score 7 = .ok (.if_icmp .ge 20, 3) := by decide +kernel
theorem dX5_score_10 : decode cX5_score 10 = .ok (.aload_n 0, 1) := by decide +kernel
theorem dX5_score_11 : decode cX5_score 11 = .ok (.getfield 51, 3) := by decide +kernel
theorem dX5_score_14 : decode cX5_score 14 = .ok (.iload_n 1, 1) := by decide +kernel
theorem dX5_score_15 : decode cX5_score 15 = .ok (.aload_n 0, 1) := by decide +kernel
theorem dX5_score_16 : decode cX5_score 16 = .ok (.iload_n 1, 1) := by decide +kernel
theorem dX5_score_17 : decode cX5_score 17 = .ok (.invokevirtual 96, 3) := by decide +kernel
theorem dX5_score_20 : decode cX5_score 20 = .ok (.lastore, 1) := by decide +kernel
theorem dX5_score_21 : decode cX5_score 21 = .ok (.iinc 1 1, 3) := by decide +kernel
theorem dX5_score_24 : decode cX5_score 24 = .ok (.goto (-22), 3) := by decide +kernel
theorem dX5_score_27 : decode cX5_score 27 = .ok (.return_, 1) := by decide +kernel
set_option maxRecDepth 20000 in
theorem ggX5_pushOf_X5_isPair : GoodIn wsX5_pushOf wsX5_isPair := goodIn_ca (goodIn_ca (goodIn_r _ [9, 10, 4, 11, 12, 13, 14, 15, 16, 17, 18, 19, 20, 21, 22, 23, 24, 25, 26, 27, 28, 29, 30, 31, 32, 33, 34] (by decide +kernel) (by decide +kernel)) (goodIn_sub (fun _ h => List.mem_cons_of_mem _ (List.mem_append_right _ h)) (by decide +kernel))) (goodIn_sub (fun _ h => List.mem_cons_of_mem _ (List.mem_append_left _ (List.mem_append_right _ h))) (by decide +kernel))
set_option maxRecDepth 20000 in
theorem gX5_pushOf_X5_isPair : GoodIn wsX5_pushOf (wsV RX5 100 RX5 yX5_isPair wsX5_isPair) := goodIn_app (goodIn_of _ (by decide +kernel)) ggX5_pushOf_X5_isPair
theorem dX5_pushOf_0 : decode cX5_pushOf 0 = .ok (.iconst 0, 1) := by decide +kernel
theorem dX5_pushOf_1 : decode cX5_pushOf 1 = .ok (.istore_n 2, 1) := by decide +kernel
theorem dX5_pushOf_2 : decode cX5_pushOf 2 = .ok (.iconst 0, 1) := by decide +kernel
theorem dX5_pushOf_3 : decode cX5_pushOf 3 = .ok (.istore_n 3, 1) := by decide +kernel
theorem dX5_pushOf_4 : decode cX5_pushOf 4 = .ok (.iload_n 3, 1) := by decide +kernel
theorem dX5_pushOf_5 : decode cX5_pushOf 5 = .ok (.aload_n 0, 1) := by decide +kernel
theorem dX5_pushOf_6 : decode cX5_pushOf 6 = .ok (.getfield 63, 3) := by decide +kernel
theorem dX5_pushOf_9 : decode cX5_pushOf 9 = .ok (.if_icmp .ge 107, 3) := by decide +kernel
theorem dX5_pushOf_12 : decode cX5_pushOf 12 = .ok (.aload_n 0, 1) := by decide +kernel
theorem dX5_pushOf_13 : decode cX5_pushOf 13 = .ok (.iload_n 1, 1) := by decide +kernel
theorem dX5_pushOf_14 : decode cX5_pushOf 14 = .ok (.iload_n 3, 1) := by decide +kernel
theorem dX5_pushOf_15 : decode cX5_pushOf 15 = .ok (.invokevirtual 100, 3) := by decide +kernel
theorem dX5_pushOf_18 : decode cX5_pushOf 18 = .ok (.ifCond .eq 43, 3) := by decide +kernel
theorem dX5_pushOf_21 : decode cX5_pushOf 21 = .ok (.aload_n 0, 1) := by decide +kernel
theorem dX5_pushOf_22 : decode cX5_pushOf 22 = .ok (.getfield 51, 3) := by decide +kernel
theorem dX5_pushOf_25 : decode cX5_pushOf 25 = .ok (.iload_n 1, 1) := by decide +kernel
theorem dX5_pushOf_26 : decode cX5_pushOf 26 = .ok (.laload, 1) := by decide +kernel
theorem dX5_pushOf_27 : decode cX5_pushOf 27 = .ok (.aload_n 0, 1) := by decide +kernel
theorem dX5_pushOf_28 : decode cX5_pushOf 28 = .ok (.getfield 51, 3) := by decide +kernel
theorem dX5_pushOf_31 : decode cX5_pushOf 31 = .ok (.iload_n 3, 1) := by decide +kernel
theorem dX5_pushOf_32 : decode cX5_pushOf 32 = .ok (.laload, 1) := by decide +kernel
theorem dX5_pushOf_33 : decode cX5_pushOf 33 = .ok (.lsub, 1) := by decide +kernel
theorem dX5_pushOf_34 : decode cX5_pushOf 34 = .ok (.aload_n 0, 1) := by decide +kernel
theorem dX5_pushOf_35 : decode cX5_pushOf 35 = .ok (.getfield 23, 3) := by decide +kernel
theorem dX5_pushOf_38 : decode cX5_pushOf 38 = .ok (.iconst 0, 1) := by decide +kernel
theorem dX5_pushOf_39 : decode cX5_pushOf 39 = .ok (.iaload, 1) := by decide +kernel
theorem dX5_pushOf_40 : decode cX5_pushOf 40 = .ok (.i2l, 1) := by decide +kernel
theorem dX5_pushOf_41 : decode cX5_pushOf 41 = .ok (.lcmp, 1) := by decide +kernel
theorem dX5_pushOf_42 : decode cX5_pushOf 42 = .ok (.ifCond .ge 19, 3) := by decide +kernel
theorem dX5_pushOf_45 : decode cX5_pushOf 45 = .ok (.iload_n 2, 1) := by decide +kernel
theorem dX5_pushOf_46 : decode cX5_pushOf 46 = .ok (.aload_n 0, 1) := by decide +kernel
theorem dX5_pushOf_47 : decode cX5_pushOf 47 = .ok (.getfield 13, 3) := by decide +kernel
theorem dX5_pushOf_50 : decode cX5_pushOf 50 = .ok (.iload_n 1, 1) := by decide +kernel
theorem dX5_pushOf_51 : decode cX5_pushOf 51 = .ok (.iaload, 1) := by decide +kernel
theorem dX5_pushOf_52 : decode cX5_pushOf 52 = .ok (.aload_n 0, 1) := by decide +kernel
theorem dX5_pushOf_53 : decode cX5_pushOf 53 = .ok (.getfield 13, 3) := by decide +kernel
theorem dX5_pushOf_56 : decode cX5_pushOf 56 = .ok (.iload_n 3, 1) := by decide +kernel
theorem dX5_pushOf_57 : decode cX5_pushOf 57 = .ok (.iaload, 1) := by decide +kernel
theorem dX5_pushOf_58 : decode cX5_pushOf 58 = .ok (.isub, 1) := by decide +kernel
theorem dX5_pushOf_59 : decode cX5_pushOf 59 = .ok (.iadd, 1) := by decide +kernel
theorem dX5_pushOf_60 : decode cX5_pushOf 60 = .ok (.istore_n 2, 1) := by decide +kernel
theorem dX5_pushOf_61 : decode cX5_pushOf 61 = .ok (.aload_n 0, 1) := by decide +kernel
theorem dX5_pushOf_62 : decode cX5_pushOf 62 = .ok (.iload_n 3, 1) := by decide +kernel
theorem dX5_pushOf_63 : decode cX5_pushOf 63 = .ok (.iload_n 1, 1) := by decide +kernel
theorem dX5_pushOf_64 : decode cX5_pushOf 64 = .ok (.invokevirtual 100, 3) := by decide +kernel
theorem dX5_pushOf_67 : decode cX5_pushOf 67 = .ok (.ifCond .eq 43, 3) := by decide +kernel
theorem dX5_pushOf_70 : decode cX5_pushOf 70 = .ok (.aload_n 0, 1) := by decide +kernel
theorem dX5_pushOf_71 : decode cX5_pushOf 71 = .ok (.getfield 51, 3) := by decide +kernel
theorem dX5_pushOf_74 : decode cX5_pushOf 74 = .ok (.iload_n 3, 1) := by decide +kernel
theorem dX5_pushOf_75 : decode cX5_pushOf 75 = .ok (.laload, 1) := by decide +kernel
theorem dX5_pushOf_76 : decode cX5_pushOf 76 = .ok (.aload_n 0, 1) := by decide +kernel
theorem dX5_pushOf_77 : decode cX5_pushOf 77 = .ok (.getfield 51, 3) := by decide +kernel
theorem dX5_pushOf_80 : decode cX5_pushOf 80 = .ok (.iload_n 1, 1) := by decide +kernel
theorem dX5_pushOf_81 : decode cX5_pushOf 81 = .ok (.laload, 1) := by decide +kernel
theorem dX5_pushOf_82 : decode cX5_pushOf 82 = .ok (.lsub, 1) := by decide +kernel
theorem dX5_pushOf_83 : decode cX5_pushOf 83 = .ok (.aload_n 0, 1) := by decide +kernel
theorem dX5_pushOf_84 : decode cX5_pushOf 84 = .ok (.getfield 23, 3) := by decide +kernel
theorem dX5_pushOf_87 : decode cX5_pushOf 87 = .ok (.iconst 0, 1) := by decide +kernel
theorem dX5_pushOf_88 : decode cX5_pushOf 88 = .ok (.iaload, 1) := by decide +kernel
theorem dX5_pushOf_89 : decode cX5_pushOf 89 = .ok (.i2l, 1) := by decide +kernel
theorem dX5_pushOf_90 : decode cX5_pushOf 90 = .ok (.lcmp, 1) := by decide +kernel
theorem dX5_pushOf_91 : decode cX5_pushOf 91 = .ok (.ifCond .ge 19, 3) := by decide +kernel
theorem dX5_pushOf_94 : decode cX5_pushOf 94 = .ok (.iload_n 2, 1) := by decide +kernel
theorem dX5_pushOf_95 : decode cX5_pushOf 95 = .ok (.aload_n 0, 1) := by decide +kernel
theorem dX5_pushOf_96 : decode cX5_pushOf 96 = .ok (.getfield 13, 3) := by decide +kernel
theorem dX5_pushOf_99 : decode cX5_pushOf 99 = .ok (.iload_n 3, 1) := by decide +kernel
theorem dX5_pushOf_100 : decode cX5_pushOf 100 = .ok (.iaload, 1) := by decide +kernel
theorem dX5_pushOf_101 : decode cX5_pushOf 101 = .ok (.aload_n 0, 1) := by decide +kernel
theorem dX5_pushOf_102 : decode cX5_pushOf 102 = .ok (.getfield 13, 3) := by decide +kernel
theorem dX5_pushOf_105 : decode cX5_pushOf 105 = .ok (.iload_n 1, 1) := by decide +kernel
theorem dX5_pushOf_106 : decode cX5_pushOf 106 = .ok (.iaload, 1) := by decide +kernel
theorem dX5_pushOf_107 : decode cX5_pushOf 107 = .ok (.isub, 1) := by decide +kernel
theorem dX5_pushOf_108 : decode cX5_pushOf 108 = .ok (.isub, 1) := by decide +kernel
theorem dX5_pushOf_109 : decode cX5_pushOf 109 = .ok (.istore_n 2, 1) := by decide +kernel
theorem dX5_pushOf_110 : decode cX5_pushOf 110 = .ok (.iinc 3 1, 3) := by decide +kernel
theorem dX5_pushOf_113 : decode cX5_pushOf 113 = .ok (.goto (-109), 3) := by decide +kernel
theorem dX5_pushOf_116 : decode cX5_pushOf 116 = .ok (.iload_n 2, 1) := by decide +kernel
theorem dX5_pushOf_117 : decode cX5_pushOf 117 = .ok (.ireturn, 1) := by decide +kernel
theorem dX5_floor_0 : decode cX5_floor 0 = .ok (.iload_n 0, 1) := by decide +kernel
theorem dX5_floor_1 : decode cX5_floor 1 = .ok (.iload_n 1, 1) := by decide +kernel
theorem dX5_floor_2 : decode cX5_floor 2 = .ok (.idiv, 1) := by decide +kernel
theorem dX5_floor_3 : decode cX5_floor 3 = .ok (.istore_n 2, 1) := by decide +kernel
theorem dX5_floor_4 : decode cX5_floor 4 = .ok (.iload_n 0, 1) := by decide +kernel
theorem dX5_floor_5 : decode cX5_floor 5 = .ok (.iload_n 1, 1) := by decide +kernel
theorem dX5_floor_6 : decode cX5_floor 6 = .ok (.irem, 1) := by decide +kernel
theorem dX5_floor_7 : decode cX5_floor 7 = .ok (.ifCond .ge 9, 3) := by decide +kernel
theorem dX5_floor_10 : decode cX5_floor 10 = .ok (.iload_n 2, 1) := by decide +kernel
theorem dX5_floor_11 : decode cX5_floor 11 = .ok (.iconst 1, 1) := by decide +kernel
theorem dX5_floor_12 : decode cX5_floor 12 = .ok (.isub, 1) := by decide +kernel
theorem dX5_floor_13 : decode cX5_floor 13 = .ok (.goto 4, 3) := by decide +kernel
theorem dX5_floor_16 : decode cX5_floor 16 = .ok (.iload_n 2, 1) := by decide +kernel
theorem dX5_floor_17 : decode cX5_floor 17 = .ok (.ireturn, 1) := by decide +kernel
set_option maxRecDepth 20000 in
theorem ggX5_tries_X5_goesLeft : GoodIn wsX5_tries wsX5_goesLeft := goodIn_ca (goodIn_ca (goodIn_r _ [14, 15, 16, 17, 18, 13, 19, 20, 21, 22, 23, 24, 25, 26, 27, 28, 29, 30, 31, 32, 33, 34, 35, 36, 37, 38, 39, 40, 41, 42, 43] (by decide +kernel) (by decide +kernel)) (goodIn_sub (fun _ h => List.mem_cons_of_mem _ (List.mem_append_left _ (List.mem_append_right _ h))) (by decide +kernel))) (goodIn_sub (fun _ h => List.mem_cons_of_mem _ (List.mem_append_right _ h)) (by decide +kernel))
set_option maxRecDepth 20000 in
theorem gX5_tries_X5_goesLeft : GoodIn wsX5_tries (wsV RX5 88 RX5 yX5_goesLeft wsX5_goesLeft) := goodIn_app (goodIn_of _ (by decide +kernel)) ggX5_tries_X5_goesLeft
theorem dX5_tries_0 : decode cX5_tries 0 = .ok (.lconst 0, 1) := by decide +kernel
theorem dX5_tries_1 : decode cX5_tries 1 = .ok (.lstore 5, 2) := by decide +kernel
theorem dX5_tries_3 : decode cX5_tries 3 = .ok (.lconst 0, 1) := by decide +kernel
theorem dX5_tries_4 : decode cX5_tries 4 = .ok (.lstore 7, 2) := by decide +kernel
theorem dX5_tries_6 : decode cX5_tries 6 = .ok (.lconst 0, 1) := by decide +kernel
theorem dX5_tries_7 : decode cX5_tries 7 = .ok (.lstore 9, 2) := by decide +kernel
theorem dX5_tries_9 : decode cX5_tries 9 = .ok (.lconst 0, 1) := by decide +kernel
theorem dX5_tries_10 : decode cX5_tries 10 = .ok (.lstore 11, 2) := by decide +kernel
theorem dX5_tries_12 : decode cX5_tries 12 = .ok (.iconst 0, 1) := by decide +kernel
theorem dX5_tries_13 : decode cX5_tries 13 = .ok (.istore 13, 2) := by decide +kernel
theorem dX5_tries_15 : decode cX5_tries 15 = .ok (.iload 13, 2) := by decide +kernel
theorem dX5_tries_17 : decode cX5_tries 17 = .ok (.aload_n 0, 1) := by decide +kernel
theorem dX5_tries_18 : decode cX5_tries 18 = .ok (.getfield 63, 3) := by decide +kernel
theorem dX5_tries_21 : decode cX5_tries 21 = .ok (.if_icmp .ge 88, 3) := by decide +kernel
theorem dX5_tries_24 : decode cX5_tries 24 = .ok (.aload_n 0, 1) := by decide +kernel
theorem dX5_tries_25 : decode cX5_tries 25 = .ok (.getfield 54, 3) := by decide +kernel
theorem dX5_tries_28 : decode cX5_tries 28 = .ok (.iload 13, 2) := by decide +kernel
theorem dX5_tries_30 : decode cX5_tries 30 = .ok (.iaload, 1) := by decide +kernel
theorem dX5_tries_31 : decode cX5_tries 31 = .ok (.iload_n 1, 1) := by decide +kernel
theorem dX5_tries_32 : decode cX5_tries 32 = .ok (.if_icmp .ne 71, 3) := by decide +kernel
theorem dX5_tries_35 : decode cX5_tries 35 = .ok (.aload_n 0, 1) := by decide +kernel
theorem dX5_tries_36 : decode cX5_tries 36 = .ok (.iload 13, 2) := by decide +kernel
theorem dX5_tries_38 : decode cX5_tries 38 = .ok (.iload_n 2, 1) := by decide +kernel
theorem dX5_tries_39 : decode cX5_tries 39 = .ok (.iload_n 3, 1) := by decide +kernel
theorem dX5_tries_40 : decode cX5_tries 40 = .ok (.iload 4, 2) := by decide +kernel
theorem dX5_tries_42 : decode cX5_tries 42 = .ok (.invokevirtual 88, 3) := by decide +kernel
theorem dX5_tries_45 : decode cX5_tries 45 = .ok (.istore 14, 2) := by decide +kernel
theorem dX5_tries_47 : decode cX5_tries 47 = .ok (.lload 9, 2) := by decide +kernel
theorem dX5_tries_49 : decode cX5_tries 49 = .ok (.lconst 1, 1) := by decide +kernel
theorem dX5_tries_50 : decode cX5_tries 50 = .ok (.ladd, 1) := by decide +kernel
theorem dX5_tries_51 : decode cX5_tries 51 = .ok (.lstore 9, 2) := by decide +kernel
theorem dX5_tries_53 : decode cX5_tries 53 = .ok (.lload 11, 2) := by decide +kernel
theorem dX5_tries_55 : decode cX5_tries 55 = .ok (.aload_n 0, 1) := by decide +kernel
theorem dX5_tries_56 : decode cX5_tries 56 = .ok (.getfield 57, 3) := by decide +kernel
theorem dX5_tries_59 : decode cX5_tries 59 = .ok (.iload 13, 2) := by decide +kernel
theorem dX5_tries_61 : decode cX5_tries 61 = .ok (.iaload, 1) := by decide +kernel
theorem dX5_tries_62 : decode cX5_tries 62 = .ok (.i2l, 1) := by decide +kernel
theorem dX5_tries_63 : decode cX5_tries 63 = .ok (.ladd, 1) := by decide +kernel
theorem dX5_tries_64 : decode cX5_tries 64 = .ok (.lstore 11, 2) := by decide +kernel
theorem dX5_tries_66 : decode cX5_tries 66 = .ok (.lload 5, 2) := by decide +kernel
theorem dX5_tries_68 : decode cX5_tries 68 = .ok (.iload 14, 2) := by decide +kernel
theorem dX5_tries_70 : decode cX5_tries 70 = .ok (.ifCond .eq 7, 3) := by decide +kernel
theorem dX5_tries_73 : decode cX5_tries 73 = .ok (.lconst 1, 1) := by decide +kernel
theorem dX5_tries_74 : decode cX5_tries 74 = .ok (.goto 4, 3) := by decide +kernel
theorem dX5_tries_77 : decode cX5_tries 77 = .ok (.lconst 0, 1) := by decide +kernel
theorem dX5_tries_78 : decode cX5_tries 78 = .ok (.ladd, 1) := by decide +kernel
theorem dX5_tries_79 : decode cX5_tries 79 = .ok (.lstore 5, 2) := by decide +kernel
theorem dX5_tries_81 : decode cX5_tries 81 = .ok (.lload 7, 2) := by decide +kernel
theorem dX5_tries_83 : decode cX5_tries 83 = .ok (.iload 14, 2) := by decide +kernel
theorem dX5_tries_85 : decode cX5_tries 85 = .ok (.ifCond .eq 14, 3) := by decide +kernel
theorem dX5_tries_88 : decode cX5_tries 88 = .ok (.aload_n 0, 1) := by decide +kernel
theorem dX5_tries_89 : decode cX5_tries 89 = .ok (.getfield 57, 3) := by decide +kernel
theorem dX5_tries_92 : decode cX5_tries 92 = .ok (.iload 13, 2) := by decide +kernel
theorem dX5_tries_94 : decode cX5_tries 94 = .ok (.iaload, 1) := by decide +kernel
theorem dX5_tries_95 : decode cX5_tries 95 = .ok (.i2l, 1) := by decide +kernel
theorem dX5_tries_96 : decode cX5_tries 96 = .ok (.goto 4, 3) := by decide +kernel
theorem dX5_tries_99 : decode cX5_tries 99 = .ok (.lconst 0, 1) := by decide +kernel
theorem dX5_tries_100 : decode cX5_tries 100 = .ok (.ladd, 1) := by decide +kernel
theorem dX5_tries_101 : decode cX5_tries 101 = .ok (.lstore 7, 2) := by decide +kernel
theorem dX5_tries_103 : decode cX5_tries 103 = .ok (.iinc 13 1, 3) := by decide +kernel
theorem dX5_tries_106 : decode cX5_tries 106 = .ok (.goto (-91), 3) := by decide +kernel
theorem dX5_tries_109 : decode cX5_tries 109 = .ok (.lload 9, 2) := by decide +kernel
theorem dX5_tries_111 : decode cX5_tries 111 = .ok (.lload 5, 2) := by decide +kernel
theorem dX5_tries_113 : decode cX5_tries 113 = .ok (.lsub, 1) := by decide +kernel
theorem dX5_tries_114 : decode cX5_tries 114 = .ok (.lstore 13, 2) := by decide +kernel
theorem dX5_tries_116 : decode cX5_tries 116 = .ok (.lload 5, 2) := by decide +kernel
theorem dX5_tries_118 : decode cX5_tries 118 = .ok (.aload_n 0, 1) := by decide +kernel
theorem dX5_tries_119 : decode cX5_tries 119 = .ok (.getfield 23, 3) := by decide +kernel
theorem dX5_tries_122 : decode cX5_tries 122 = .ok (.iconst 3, 1) := by decide +kernel
theorem dX5_tries_123 : decode cX5_tries 123 = .ok (.iaload, 1) := by decide +kernel
theorem dX5_tries_124 : decode cX5_tries 124 = .ok (.i2l, 1) := by decide +kernel
theorem dX5_tries_125 : decode cX5_tries 125 = .ok (.lcmp, 1) := by decide +kernel
theorem dX5_tries_126 : decode cX5_tries 126 = .ok (.ifCond .lt 16, 3) := by decide +kernel
theorem dX5_tries_129 : decode cX5_tries 129 = .ok (.lload 13, 2) := by decide +kernel
theorem dX5_tries_131 : decode cX5_tries 131 = .ok (.aload_n 0, 1) := by decide +kernel
theorem dX5_tries_132 : decode cX5_tries 132 = .ok (.getfield 23, 3) := by decide +kernel
theorem dX5_tries_135 : decode cX5_tries 135 = .ok (.iconst 3, 1) := by decide +kernel
theorem dX5_tries_136 : decode cX5_tries 136 = .ok (.iaload, 1) := by decide +kernel
theorem dX5_tries_137 : decode cX5_tries 137 = .ok (.i2l, 1) := by decide +kernel
theorem dX5_tries_138 : decode cX5_tries 138 = .ok (.lcmp, 1) := by decide +kernel
theorem dX5_tries_139 : decode cX5_tries 139 = .ok (.ifCond .ge 4, 3) := by decide +kernel
theorem dX5_tries_142 : decode cX5_tries 142 = .ok (.return_, 1) := by decide +kernel
theorem dX5_tries_143 : decode cX5_tries 143 = .ok (.lload 7, 2) := by decide +kernel
theorem dX5_tries_145 : decode cX5_tries 145 = .ok (.lload 13, 2) := by decide +kernel
theorem dX5_tries_147 : decode cX5_tries 147 = .ok (.lmul, 1) := by decide +kernel
theorem dX5_tries_148 : decode cX5_tries 148 = .ok (.lload 11, 2) := by decide +kernel
theorem dX5_tries_150 : decode cX5_tries 150 = .ok (.lload 7, 2) := by decide +kernel
theorem dX5_tries_152 : decode cX5_tries 152 = .ok (.lsub, 1) := by decide +kernel
theorem dX5_tries_153 : decode cX5_tries 153 = .ok (.lload 5, 2) := by decide +kernel
theorem dX5_tries_155 : decode cX5_tries 155 = .ok (.lmul, 1) := by decide +kernel
theorem dX5_tries_156 : decode cX5_tries 156 = .ok (.lsub, 1) := by decide +kernel
theorem dX5_tries_157 : decode cX5_tries 157 = .ok (.lstore 15, 2) := by decide +kernel
theorem dX5_tries_159 : decode cX5_tries 159 = .ok (.lload 15, 2) := by decide +kernel
theorem dX5_tries_161 : decode cX5_tries 161 = .ok (.lload 15, 2) := by decide +kernel
theorem dX5_tries_163 : decode cX5_tries 163 = .ok (.lmul, 1) := by decide +kernel
theorem dX5_tries_164 : decode cX5_tries 164 = .ok (.lstore 17, 2) := by decide +kernel
theorem dX5_tries_166 : decode cX5_tries 166 = .ok (.lload 5, 2) := by decide +kernel
theorem dX5_tries_168 : decode cX5_tries 168 = .ok (.lload 13, 2) := by decide +kernel
theorem dX5_tries_170 : decode cX5_tries 170 = .ok (.lmul, 1) := by decide +kernel
theorem dX5_tries_171 : decode cX5_tries 171 = .ok (.lload 9, 2) := by decide +kernel
theorem dX5_tries_173 : decode cX5_tries 173 = .ok (.lmul, 1) := by decide +kernel
theorem dX5_tries_174 : decode cX5_tries 174 = .ok (.lstore 19, 2) := by decide +kernel
theorem dX5_tries_176 : decode cX5_tries 176 = .ok (.lload 17, 2) := by decide +kernel
theorem dX5_tries_178 : decode cX5_tries 178 = .ok (.aload_n 0, 1) := by decide +kernel
theorem dX5_tries_179 : decode cX5_tries 179 = .ok (.getfield 104, 3) := by decide +kernel
theorem dX5_tries_182 : decode cX5_tries 182 = .ok (.lmul, 1) := by decide +kernel
theorem dX5_tries_183 : decode cX5_tries 183 = .ok (.aload_n 0, 1) := by decide +kernel
theorem dX5_tries_184 : decode cX5_tries 184 = .ok (.getfield 108, 3) := by decide +kernel
theorem dX5_tries_187 : decode cX5_tries 187 = .ok (.lload 19, 2) := by decide +kernel
theorem dX5_tries_189 : decode cX5_tries 189 = .ok (.lmul, 1) := by decide +kernel
theorem dX5_tries_190 : decode cX5_tries 190 = .ok (.lcmp, 1) := by decide +kernel
theorem dX5_tries_191 : decode cX5_tries 191 = .ok (.ifCond .le 31, 3) := by decide +kernel
theorem dX5_tries_194 : decode cX5_tries 194 = .ok (.aload_n 0, 1) := by decide +kernel
theorem dX5_tries_195 : decode cX5_tries 195 = .ok (.iload_n 2, 1) := by decide +kernel
theorem dX5_tries_196 : decode cX5_tries 196 = .ok (.putfield 111, 3) := by decide +kernel
theorem dX5_tries_199 : decode cX5_tries 199 = .ok (.aload_n 0, 1) := by decide +kernel
theorem dX5_tries_200 : decode cX5_tries 200 = .ok (.iload_n 3, 1) := by decide +kernel
theorem dX5_tries_201 : decode cX5_tries 201 = .ok (.putfield 114, 3) := by decide +kernel
theorem dX5_tries_204 : decode cX5_tries 204 = .ok (.aload_n 0, 1) := by decide +kernel
theorem dX5_tries_205 : decode cX5_tries 205 = .ok (.iload 4, 2) := by decide +kernel
theorem dX5_tries_207 : decode cX5_tries 207 = .ok (.putfield 117, 3) := by decide +kernel
theorem dX5_tries_210 : decode cX5_tries 210 = .ok (.aload_n 0, 1) := by decide +kernel
theorem dX5_tries_211 : decode cX5_tries 211 = .ok (.lload 17, 2) := by decide +kernel
theorem dX5_tries_213 : decode cX5_tries 213 = .ok (.putfield 108, 3) := by decide +kernel
theorem dX5_tries_216 : decode cX5_tries 216 = .ok (.aload_n 0, 1) := by decide +kernel
theorem dX5_tries_217 : decode cX5_tries 217 = .ok (.lload 19, 2) := by decide +kernel
theorem dX5_tries_219 : decode cX5_tries 219 = .ok (.putfield 104, 3) := by decide +kernel
theorem dX5_tries_222 : decode cX5_tries 222 = .ok (.return_, 1) := by decide +kernel
theorem dX5_below_0 : decode cX5_below 0 = .ok (.iload_n 0, 1) := by decide +kernel
theorem dX5_below_1 : decode cX5_below 1 = .ok (.ifCond .ne 7, 3) := by decide +kernel
theorem dX5_below_4 : decode cX5_below 4 = .ok (.iconst 0, 1) := by decide +kernel
theorem dX5_below_5 : decode cX5_below 5 = .ok (.goto 23, 3) := by decide +kernel
theorem dX5_below_8 : decode cX5_below 8 = .ok (.iload_n 0, 1) := by decide +kernel
theorem dX5_below_9 : decode cX5_below 9 = .ok (.iconst 3, 1) := by decide +kernel
theorem dX5_below_10 : decode cX5_below 10 = .ok (.if_icmp .ge 7, 3) := by decide +kernel
theorem dX5_below_13 : decode cX5_below 13 = .ok (.iconst 1, 1) := by decide +kernel
theorem dX5_below_14 : decode cX5_below 14 = .ok (.goto 14, 3) := by decide +kernel
theorem dX5_below_17 : decode cX5_below 17 = .ok (.iload_n 0, 1) := by decide +kernel
theorem dX5_below_18 : decode cX5_below 18 = .ok (.bipush 7, 2) := by decide +kernel
theorem dX5_below_20 : decode cX5_below 20 = .ok (.if_icmp .ge 7, 3) := by decide +kernel
theorem dX5_below_23 : decode cX5_below 23 = .ok (.iconst 2, 1) := by decide +kernel
theorem dX5_below_24 : decode cX5_below 24 = .ok (.goto 4, 3) := by decide +kernel
theorem dX5_below_27 : decode cX5_below 27 = .ok (.iconst 3, 1) := by decide +kernel
theorem dX5_below_28 : decode cX5_below 28 = .ok (.ireturn, 1) := by decide +kernel
set_option maxRecDepth 20000 in
theorem ggX5_growNode_X5_floor : GoodIn wsX5_growNode wsX5_floor := goodIn_ca (goodIn_r _ [24] (by decide +kernel) (by decide +kernel)) (goodIn_sub (fun _ h => List.mem_cons_of_mem _ (List.mem_append_right _ h)) (by decide +kernel))
set_option maxRecDepth 20000 in
theorem gX5_growNode_X5_floor : GoodIn wsX5_growNode (va_wsS RX5 120 yX5_floor wsX5_floor) := goodIn_app (goodIn_of _ (by decide +kernel)) ggX5_growNode_X5_floor
set_option maxRecDepth 20000 in
theorem ggX5_growNode_X5_below : GoodIn wsX5_growNode wsX5_below := goodIn_r _ [27] (by decide +kernel) (by decide +kernel)
set_option maxRecDepth 20000 in
theorem gX5_growNode_X5_below : GoodIn wsX5_growNode (va_wsS RX5 123 yX5_below wsX5_below) := goodIn_app (goodIn_of _ (by decide +kernel)) ggX5_growNode_X5_below
set_option maxRecDepth 20000 in
theorem ggX5_growNode_X5_tries : GoodIn wsX5_growNode wsX5_tries := goodIn_ca (goodIn_ca (goodIn_r _ [31, 2, 3, 4, 8, 10, 9, 14, 16, 18, 32, 33, 34, 23, 35, 11, 12, 36, 37, 38, 42, 43, 44, 45, 46, 47, 48, 49, 50, 51, 52, 53, 54, 55, 56, 57, 58, 59, 60, 61, 62, 63, 64, 65] (by decide +kernel) (by decide +kernel)) (goodIn_sub (fun _ h => List.mem_cons_of_mem _ (List.mem_append_left _ (List.mem_append_left _ (List.mem_append_right _ h)))) (by decide +kernel))) (goodIn_sub (fun _ h => List.mem_cons_of_mem _ (List.mem_append_left _ (List.mem_append_right _ h))) (by decide +kernel))
set_option maxRecDepth 20000 in
theorem gX5_growNode_X5_tries : GoodIn wsX5_growNode (wsV RX5 126 RX5 yX5_tries wsX5_tries) := goodIn_app (goodIn_of _ (by decide +kernel)) ggX5_growNode_X5_tries
set_option maxRecDepth 20000 in
theorem ggX5_growNode_X5_common : GoodIn wsX5_growNode wsX5_common := goodIn_ca (goodIn_r _ [41] (by decide +kernel) (by decide +kernel)) (goodIn_sub (fun _ h => List.mem_cons_of_mem _ (List.mem_append_right _ h)) (by decide +kernel))
set_option maxRecDepth 20000 in
theorem gX5_growNode_X5_common : GoodIn wsX5_growNode (va_wsS RX5 130 yX5_common wsX5_common) := goodIn_app (goodIn_of _ (by decide +kernel)) ggX5_growNode_X5_common
set_option maxRecDepth 20000 in
theorem ggX5_growNode_X5_goesLeft : GoodIn wsX5_growNode wsX5_goesLeft := goodIn_ca (goodIn_ca (goodIn_r _ [35, 11, 12, 36, 37, 23, 38, 42, 43, 44, 45, 46, 47, 48, 49, 50, 51, 52, 53, 54, 55, 56, 57, 58, 59, 60, 61, 62, 63, 64, 65] (by decide +kernel) (by decide +kernel)) (goodIn_sub (fun _ h => List.mem_cons_of_mem _ (List.mem_append_left _ (List.mem_append_left _ (List.mem_append_right _ h)))) (by decide +kernel))) (goodIn_sub (fun _ h => List.mem_cons_of_mem _ (List.mem_append_left _ (List.mem_append_right _ h))) (by decide +kernel))
set_option maxRecDepth 20000 in
theorem gX5_growNode_X5_goesLeft : GoodIn wsX5_growNode (wsV RX5 88 RX5 yX5_goesLeft wsX5_goesLeft) := goodIn_app (goodIn_of _ (by decide +kernel)) ggX5_growNode_X5_goesLeft
theorem dX5_growNode_0 : decode cX5_growNode 0 = .ok (.bipush 15, 2) := by decide +kernel
theorem dX5_growNode_2 : decode cX5_growNode 2 = .ok (.aload_n 0, 1) := by decide +kernel
theorem dX5_growNode_3 : decode cX5_growNode 3 = .ok (.getfield 67, 3) := by decide +kernel
theorem dX5_growNode_6 : decode cX5_growNode 6 = .ok (.imul, 1) := by decide +kernel
theorem dX5_growNode_7 : decode cX5_growNode 7 = .ok (.iload_n 1, 1) := by decide +kernel
theorem dX5_growNode_8 : decode cX5_growNode 8 = .ok (.iadd, 1) := by decide +kernel
theorem dX5_growNode_9 : decode cX5_growNode 9 = .ok (.istore_n 2, 1) := by decide +kernel
theorem dX5_growNode_10 : decode cX5_growNode 10 = .ok (.iconst 0, 1) := by decide +kernel
theorem dX5_growNode_11 : decode cX5_growNode 11 = .ok (.istore_n 3, 1) := by decide +kernel
theorem dX5_growNode_12 : decode cX5_growNode 12 = .ok (.iconst 0, 1) := by decide +kernel
theorem dX5_growNode_13 : decode cX5_growNode 13 = .ok (.istore 4, 2) := by decide +kernel
theorem dX5_growNode_15 : decode cX5_growNode 15 = .ok (.iconst 0, 1) := by decide +kernel
theorem dX5_growNode_16 : decode cX5_growNode 16 = .ok (.istore 5, 2) := by decide +kernel
theorem dX5_growNode_18 : decode cX5_growNode 18 = .ok (.iload 5, 2) := by decide +kernel
theorem dX5_growNode_20 : decode cX5_growNode 20 = .ok (.aload_n 0, 1) := by decide +kernel
theorem dX5_growNode_21 : decode cX5_growNode 21 = .ok (.getfield 63, 3) := by decide +kernel
theorem dX5_growNode_24 : decode cX5_growNode 24 = .ok (.if_icmp .ge 55, 3) := by decide +kernel
theorem dX5_growNode_27 : decode cX5_growNode 27 = .ok (.iload_n 3, 1) := by decide +kernel
theorem dX5_growNode_28 : decode cX5_growNode 28 = .ok (.aload_n 0, 1) := by decide +kernel
theorem dX5_growNode_29 : decode cX5_growNode 29 = .ok (.getfield 54, 3) := by decide +kernel
theorem dX5_growNode_32 : decode cX5_growNode 32 = .ok (.iload 5, 2) := by decide +kernel
theorem dX5_growNode_34 : decode cX5_growNode 34 = .ok (.iaload, 1) := by decide +kernel
theorem dX5_growNode_35 : decode cX5_growNode 35 = .ok (.iload_n 1, 1) := by decide +kernel
theorem dX5_growNode_36 : decode cX5_growNode 36 = .ok (.if_icmp .ne 7, 3) := by decide +kernel
theorem dX5_growNode_39 : decode cX5_growNode 39 = .ok (.iconst 1, 1) := by decide +kernel
theorem dX5_growNode_40 : decode cX5_growNode 40 = .ok (.goto 4, 3) := by decide +kernel
theorem dX5_growNode_43 : decode cX5_growNode 43 = .ok (.iconst 0, 1) := by decide +kernel
theorem dX5_growNode_44 : decode cX5_growNode 44 = .ok (.iadd, 1) := by decide +kernel
theorem dX5_growNode_45 : decode cX5_growNode 45 = .ok (.istore_n 3, 1) := by decide +kernel
theorem dX5_growNode_46 : decode cX5_growNode 46 = .ok (.iload 4, 2) := by decide +kernel
theorem dX5_growNode_48 : decode cX5_growNode 48 = .ok (.aload_n 0, 1) := by decide +kernel
theorem dX5_growNode_49 : decode cX5_growNode 49 = .ok (.getfield 54, 3) := by decide +kernel
theorem dX5_growNode_52 : decode cX5_growNode 52 = .ok (.iload 5, 2) := by decide +kernel
theorem dX5_growNode_54 : decode cX5_growNode 54 = .ok (.iaload, 1) := by decide +kernel
theorem dX5_growNode_55 : decode cX5_growNode 55 = .ok (.iload_n 1, 1) := by decide +kernel
theorem dX5_growNode_56 : decode cX5_growNode 56 = .ok (.if_icmp .ne 13, 3) := by decide +kernel
theorem dX5_growNode_59 : decode cX5_growNode 59 = .ok (.aload_n 0, 1) := by decide +kernel
theorem dX5_growNode_60 : decode cX5_growNode 60 = .ok (.getfield 57, 3) := by decide +kernel
theorem dX5_growNode_63 : decode cX5_growNode 63 = .ok (.iload 5, 2) := by decide +kernel
theorem dX5_growNode_65 : decode cX5_growNode 65 = .ok (.iaload, 1) := by decide +kernel
theorem dX5_growNode_66 : decode cX5_growNode 66 = .ok (.goto 4, 3) := by decide +kernel
theorem dX5_growNode_69 : decode cX5_growNode 69 = .ok (.iconst 0, 1) := by decide +kernel
theorem dX5_growNode_70 : decode cX5_growNode 70 = .ok (.iadd, 1) := by decide +kernel
theorem dX5_growNode_71 : decode cX5_growNode 71 = .ok (.istore 4, 2) := by decide +kernel
theorem dX5_growNode_73 : decode cX5_growNode 73 = .ok (.iinc 5 1, 3) := by decide +kernel
theorem dX5_growNode_76 : decode cX5_growNode 76 = .ok (.goto (-58), 3) := by decide +kernel
theorem dX5_growNode_79 : decode cX5_growNode 79 = .ok (.aload_n 0, 1) := by decide +kernel
theorem dX5_growNode_80 : decode cX5_growNode 80 = .ok (.getfield 26, 3) := by decide +kernel
theorem dX5_growNode_83 : decode cX5_growNode 83 = .ok (.iload_n 2, 1) := by decide +kernel
theorem dX5_growNode_84 : decode cX5_growNode 84 = .ok (.iload_n 3, 1) := by decide +kernel
theorem dX5_growNode_85 : decode cX5_growNode 85 = .ok (.ifCond .ne 7, 3) := by decide +kernel
theorem dX5_growNode_88 : decode cX5_growNode 88 = .ok (.iconst 0, 1) := by decide +kernel
theorem dX5_growNode_89 : decode cX5_growNode 89 = .ok (.goto 4, 3) := by decide +kernel
theorem dX5_growNode_92 : decode cX5_growNode 92 = .ok (.iconst 1, 1) := by decide +kernel
theorem dX5_growNode_93 : decode cX5_growNode 93 = .ok (.iastore, 1) := by decide +kernel
theorem dX5_growNode_94 : decode cX5_growNode 94 = .ok (.aload_n 0, 1) := by decide +kernel
theorem dX5_growNode_95 : decode cX5_growNode 95 = .ok (.getfield 41, 3) := by decide +kernel
theorem dX5_growNode_98 : decode cX5_growNode 98 = .ok (.iload_n 2, 1) := by decide +kernel
theorem dX5_growNode_99 : decode cX5_growNode 99 = .ok (.iload_n 3, 1) := by decide +kernel
theorem dX5_growNode_100 : decode cX5_growNode 100 = .ok (.iastore, 1) := by decide +kernel
theorem dX5_growNode_101 : decode cX5_growNode 101 = .ok (.iload_n 3, 1) := by decide +kernel
theorem dX5_growNode_102 : decode cX5_growNode 102 = .ok (.ifCond .ne 4, 3) := by decide +kernel
theorem dX5_growNode_105 : decode cX5_growNode 105 = .ok (.return_, 1) := by decide +kernel
theorem dX5_growNode_106 : decode cX5_growNode 106 = .ok (.aload_n 0, 1) := by decide +kernel
theorem dX5_growNode_107 : decode cX5_growNode 107 = .ok (.getfield 38, 3) := by decide +kernel
theorem dX5_growNode_110 : decode cX5_growNode 110 = .ok (.iload_n 2, 1) := by decide +kernel
theorem dX5_growNode_111 : decode cX5_growNode 111 = .ok (.aload_n 0, 1) := by decide +kernel
theorem dX5_growNode_112 : decode cX5_growNode 112 = .ok (.getfield 23, 3) := by decide +kernel
theorem dX5_growNode_115 : decode cX5_growNode 115 = .ok (.iconst 1, 1) := by decide +kernel
theorem dX5_growNode_116 : decode cX5_growNode 116 = .ok (.iaload, 1) := by decide +kernel
theorem dX5_growNode_117 : decode cX5_growNode 117 = .ok (.iload 4, 2) := by decide +kernel
theorem dX5_growNode_119 : decode cX5_growNode 119 = .ok (.imul, 1) := by decide +kernel
theorem dX5_growNode_120 : decode cX5_growNode 120 = .ok (.iload_n 3, 1) := by decide +kernel
theorem dX5_growNode_121 : decode cX5_growNode 121 = .ok (.invokestatic 120, 3) := by decide +kernel
theorem dX5_growNode_124 : decode cX5_growNode 124 = .ok (.iastore, 1) := by decide +kernel
theorem dX5_growNode_125 : decode cX5_growNode 125 = .ok (.aload_n 0, 1) := by decide +kernel
theorem dX5_growNode_126 : decode cX5_growNode 126 = .ok (.lconst 0, 1) := by decide +kernel
theorem dX5_growNode_127 : decode cX5_growNode 127 = .ok (.putfield 108, 3) := by decide +kernel
theorem dX5_growNode_130 : decode cX5_growNode 130 = .ok (.aload_n 0, 1) := by decide +kernel
theorem dX5_growNode_131 : decode cX5_growNode 131 = .ok (.lconst 1, 1) := by decide +kernel
theorem dX5_growNode_132 : decode cX5_growNode 132 = .ok (.putfield 104, 3) := by decide +kernel
theorem dX5_growNode_135 : decode cX5_growNode 135 = .ok (.iconst 0, 1) := by decide +kernel
theorem dX5_growNode_136 : decode cX5_growNode 136 = .ok (.istore 5, 2) := by decide +kernel
theorem dX5_growNode_138 : decode cX5_growNode 138 = .ok (.iload 5, 2) := by decide +kernel
theorem dX5_growNode_140 : decode cX5_growNode 140 = .ok (.iconst 4, 1) := by decide +kernel
theorem dX5_growNode_141 : decode cX5_growNode 141 = .ok (.if_icmp .ge 202, 3) := by decide +kernel
theorem dX5_growNode_144 : decode cX5_growNode 144 = .ok (.iload_n 1, 1) := by decide +kernel
theorem dX5_growNode_145 : decode cX5_growNode 145 = .ok (.invokestatic 123, 3) := by decide +kernel
theorem dX5_growNode_148 : decode cX5_growNode 148 = .ok (.aload_n 0, 1) := by decide +kernel
theorem dX5_growNode_149 : decode cX5_growNode 149 = .ok (.getfield 23, 3) := by decide +kernel
theorem dX5_growNode_152 : decode cX5_growNode 152 = .ok (.iconst 2, 1) := by decide +kernel
theorem dX5_growNode_153 : decode cX5_growNode 153 = .ok (.iaload, 1) := by decide +kernel
theorem dX5_growNode_154 : decode cX5_growNode 154 = .ok (.if_icmp .ge 189, 3) := by decide +kernel
theorem dX5_growNode_157 : decode cX5_growNode 157 = .ok (.sipush (-1001), 3) := by decide +kernel
theorem dX5_growNode_160 : decode cX5_growNode 160 = .ok (.istore 6, 2) := by decide +kernel
theorem dX5_growNode_162 : decode cX5_growNode 162 = .ok (.iconst 1, 1) := by decide +kernel
theorem dX5_growNode_163 : decode cX5_growNode 163 = .ok (.istore 7, 2) := by decide +kernel
theorem dX5_growNode_165 : decode cX5_growNode 165 = .ok (.iload 7, 2) := by decide +kernel
theorem dX5_growNode_167 : decode cX5_growNode 167 = .ok (.ifCond .eq 170, 3) := by decide +kernel
theorem dX5_growNode_170 : decode cX5_growNode 170 = .ok (.sipush 1001, 3) := by decide +kernel
theorem dX5_growNode_173 : decode cX5_growNode 173 = .ok (.istore 8, 2) := by decide +kernel
theorem dX5_growNode_175 : decode cX5_growNode 175 = .ok (.iconst 0, 1) := by decide +kernel
theorem dX5_growNode_176 : decode cX5_growNode 176 = .ok (.istore 9, 2) := by decide +kernel
theorem dX5_growNode_178 : decode cX5_growNode 178 = .ok (.iload 9, 2) := by decide +kernel
theorem dX5_growNode_180 : decode cX5_growNode 180 = .ok (.aload_n 0, 1) := by decide +kernel
theorem dX5_growNode_181 : decode cX5_growNode 181 = .ok (.getfield 63, 3) := by decide +kernel
theorem dX5_growNode_184 : decode cX5_growNode 184 = .ok (.if_icmp .ge 100, 3) := by decide +kernel
theorem dX5_growNode_187 : decode cX5_growNode 187 = .ok (.aload_n 0, 1) := by decide +kernel
theorem dX5_growNode_188 : decode cX5_growNode 188 = .ok (.getfield 54, 3) := by decide +kernel
theorem dX5_growNode_191 : decode cX5_growNode 191 = .ok (.iload 9, 2) := by decide +kernel
theorem dX5_growNode_193 : decode cX5_growNode 193 = .ok (.iaload, 1) := by decide +kernel
theorem dX5_growNode_194 : decode cX5_growNode 194 = .ok (.iload_n 1, 1) := by decide +kernel
theorem dX5_growNode_195 : decode cX5_growNode 195 = .ok (.if_icmp .ne 39, 3) := by decide +kernel
theorem dX5_growNode_198 : decode cX5_growNode 198 = .ok (.aload_n 0, 1) := by decide +kernel
theorem dX5_growNode_199 : decode cX5_growNode 199 = .ok (.getfield 19, 3) := by decide +kernel
theorem dX5_growNode_202 : decode cX5_growNode 202 = .ok (.iconst 4, 1) := by decide +kernel
theorem dX5_growNode_203 : decode cX5_growNode 203 = .ok (.iload 9, 2) := by decide +kernel
theorem dX5_growNode_205 : decode cX5_growNode 205 = .ok (.imul, 1) := by decide +kernel
theorem dX5_growNode_206 : decode cX5_growNode 206 = .ok (.iload 5, 2) := by decide +kernel
theorem dX5_growNode_208 : decode cX5_growNode 208 = .ok (.iadd, 1) := by decide +kernel
theorem dX5_growNode_209 : decode cX5_growNode 209 = .ok (.baload, 1) := by decide +kernel
theorem dX5_growNode_210 : decode cX5_growNode 210 = .ok (.ifCond .eq 24, 3) := by decide +kernel
theorem dX5_growNode_213 : decode cX5_growNode 213 = .ok (.aload_n 0, 1) := by decide +kernel
theorem dX5_growNode_214 : decode cX5_growNode 214 = .ok (.getfield 16, 3) := by decide +kernel
theorem dX5_growNode_217 : decode cX5_growNode 217 = .ok (.iconst 4, 1) := by decide +kernel
theorem dX5_growNode_218 : decode cX5_growNode 218 = .ok (.iload 9, 2) := by decide +kernel
theorem dX5_growNode_220 : decode cX5_growNode 220 = .ok (.imul, 1) := by decide +kernel
theorem dX5_growNode_221 : decode cX5_growNode 221 = .ok (.iload 5, 2) := by decide +kernel
theorem dX5_growNode_223 : decode cX5_growNode 223 = .ok (.iadd, 1) := by decide +kernel
theorem dX5_growNode_224 : decode cX5_growNode 224 = .ok (.iaload, 1) := by decide +kernel
theorem dX5_growNode_225 : decode cX5_growNode 225 = .ok (.iload 6, 2) := by decide +kernel
theorem dX5_growNode_227 : decode cX5_growNode 227 = .ok (.if_icmp .le 7, 3) := by decide +kernel
theorem dX5_growNode_230 : decode cX5_growNode 230 = .ok (.iconst 1, 1) := by decide +kernel
theorem dX5_growNode_231 : decode cX5_growNode 231 = .ok (.goto 4, 3) := by decide +kernel
theorem dX5_growNode_234 : decode cX5_growNode 234 = .ok (.iconst 0, 1) := by decide +kernel
theorem dX5_growNode_235 : decode cX5_growNode 235 = .ok (.istore 10, 2) := by decide +kernel
theorem dX5_growNode_237 : decode cX5_growNode 237 = .ok (.iload 10, 2) := by decide +kernel
theorem dX5_growNode_239 : decode cX5_growNode 239 = .ok (.ifCond .eq 35, 3) := by decide +kernel
theorem dX5_growNode_242 : decode cX5_growNode 242 = .ok (.aload_n 0, 1) := by decide +kernel
theorem dX5_growNode_243 : decode cX5_growNode 243 = .ok (.getfield 16, 3) := by decide +kernel
theorem dX5_growNode_246 : decode cX5_growNode 246 = .ok (.iconst 4, 1) := by decide +kernel
theorem dX5_growNode_247 : decode cX5_growNode 247 = .ok (.iload 9, 2) := by decide +kernel
theorem dX5_growNode_249 : decode cX5_growNode 249 = .ok (.imul, 1) := by decide +kernel
theorem dX5_growNode_250 : decode cX5_growNode 250 = .ok (.iload 5, 2) := by decide +kernel
theorem dX5_growNode_252 : decode cX5_growNode 252 = .ok (.iadd, 1) := by decide +kernel
theorem dX5_growNode_253 : decode cX5_growNode 253 = .ok (.iaload, 1) := by decide +kernel
theorem dX5_growNode_254 : decode cX5_growNode 254 = .ok (.iload 8, 2) := by decide +kernel
theorem dX5_growNode_256 : decode cX5_growNode 256 = .ok (.if_icmp .ge 18, 3) := by decide +kernel
theorem dX5_growNode_259 : decode cX5_growNode 259 = .ok (.aload_n 0, 1) := by decide +kernel
theorem dX5_growNode_260 : decode cX5_growNode 260 = .ok (.getfield 16, 3) := by decide +kernel
theorem dX5_growNode_263 : decode cX5_growNode 263 = .ok (.iconst 4, 1) := by decide +kernel
theorem dX5_growNode_264 : decode cX5_growNode 264 = .ok (.iload 9, 2) := by decide +kernel
theorem dX5_growNode_266 : decode cX5_growNode 266 = .ok (.imul, 1) := by decide +kernel
theorem dX5_growNode_267 : decode cX5_growNode 267 = .ok (.iload 5, 2) := by decide +kernel
theorem dX5_growNode_269 : decode cX5_growNode 269 = .ok (.iadd, 1) := by decide +kernel
theorem dX5_growNode_270 : decode cX5_growNode 270 = .ok (.iaload, 1) := by decide +kernel
theorem dX5_growNode_271 : decode cX5_growNode 271 = .ok (.goto 5, 3) := by decide +kernel
theorem dX5_growNode_274 : decode cX5_growNode 274 = .ok (.iload 8, 2) := by decide +kernel
theorem dX5_growNode_276 : decode cX5_growNode 276 = .ok (.istore 8, 2) := by decide +kernel
theorem dX5_growNode_278 : decode cX5_growNode 278 = .ok (.iinc 9 1, 3) := by decide +kernel
theorem dX5_growNode_281 : decode cX5_growNode 281 = .ok (.goto (-103), 3) := by decide +kernel
theorem dX5_growNode_284 : decode cX5_growNode 284 = .ok (.iload 8, 2) := by decide +kernel
theorem dX5_growNode_286 : decode cX5_growNode 286 = .ok (.sipush 1001, 3) := by decide +kernel
theorem dX5_growNode_289 : decode cX5_growNode 289 = .ok (.if_icmp .ge 7, 3) := by decide +kernel
theorem dX5_growNode_292 : decode cX5_growNode 292 = .ok (.iconst 1, 1) := by decide +kernel
theorem dX5_growNode_293 : decode cX5_growNode 293 = .ok (.goto 4, 3) := by decide +kernel
theorem dX5_growNode_296 : decode cX5_growNode 296 = .ok (.iconst 0, 1) := by decide +kernel
theorem dX5_growNode_297 : decode cX5_growNode 297 = .ok (.istore 7, 2) := by decide +kernel
theorem dX5_growNode_299 : decode cX5_growNode 299 = .ok (.iload 8, 2) := by decide +kernel
theorem dX5_growNode_301 : decode cX5_growNode 301 = .ok (.istore 6, 2) := by decide +kernel
theorem dX5_growNode_303 : decode cX5_growNode 303 = .ok (.iconst 0, 1) := by decide +kernel
theorem dX5_growNode_304 : decode cX5_growNode 304 = .ok (.istore 9, 2) := by decide +kernel
theorem dX5_growNode_306 : decode cX5_growNode 306 = .ok (.iload 9, 2) := by decide +kernel
theorem dX5_growNode_308 : decode cX5_growNode 308 = .ok (.iconst 2, 1) := by decide +kernel
theorem dX5_growNode_309 : decode cX5_growNode 309 = .ok (.if_icmp .ge 25, 3) := by decide +kernel
theorem dX5_growNode_312 : decode cX5_growNode 312 = .ok (.iload 7, 2) := by decide +kernel
theorem dX5_growNode_314 : decode cX5_growNode 314 = .ok (.ifCond .eq 20, 3) := by decide +kernel
theorem dX5_growNode_317 : decode cX5_growNode 317 = .ok (.aload_n 0, 1) := by decide +kernel
theorem dX5_growNode_318 : decode cX5_growNode 318 = .ok (.iload_n 1, 1) := by decide +kernel
theorem dX5_growNode_319 : decode cX5_growNode 319 = .ok (.iload 5, 2) := by decide +kernel
theorem dX5_growNode_321 : decode cX5_growNode 321 = .ok (.iload 6, 2) := by decide +kernel
theorem dX5_growNode_323 : decode cX5_growNode 323 = .ok (.iload 9, 2) := by decide +kernel
theorem dX5_growNode_325 : decode cX5_growNode 325 = .ok (.invokevirtual 126, 3) := by decide +kernel
theorem dX5_growNode_328 : decode cX5_growNode 328 = .ok (.iinc 9 1, 3) := by decide +kernel
theorem dX5_growNode_331 : decode cX5_growNode 331 = .ok (.goto (-25), 3) := by decide +kernel
theorem dX5_growNode_334 : decode cX5_growNode 334 = .ok (.goto (-169), 3) := by decide +kernel
theorem dX5_growNode_337 : decode cX5_growNode 337 = .ok (.iinc 5 1, 3) := by decide +kernel
theorem dX5_growNode_340 : decode cX5_growNode 340 = .ok (.goto (-202), 3) := by decide +kernel
theorem dX5_growNode_343 : decode cX5_growNode 343 = .ok (.aload_n 0, 1) := by decide +kernel
theorem dX5_growNode_344 : decode cX5_growNode 344 = .ok (.getfield 108, 3) := by decide +kernel
theorem dX5_growNode_347 : decode cX5_growNode 347 = .ok (.lconst 0, 1) := by decide +kernel
theorem dX5_growNode_348 : decode cX5_growNode 348 = .ok (.lcmp, 1) := by decide +kernel
theorem dX5_growNode_349 : decode cX5_growNode 349 = .ok (.ifCond .le 149, 3) := by decide +kernel
theorem dX5_growNode_352 : decode cX5_growNode 352 = .ok (.aload_n 0, 1) := by decide +kernel
theorem dX5_growNode_353 : decode cX5_growNode 353 = .ok (.getfield 26, 3) := by decide +kernel
theorem dX5_growNode_356 : decode cX5_growNode 356 = .ok (.iload_n 2, 1) := by decide +kernel
theorem dX5_growNode_357 : decode cX5_growNode 357 = .ok (.iconst 2, 1) := by decide +kernel
theorem dX5_growNode_358 : decode cX5_growNode 358 = .ok (.iastore, 1) := by decide +kernel
theorem dX5_growNode_359 : decode cX5_growNode 359 = .ok (.aload_n 0, 1) := by decide +kernel
theorem dX5_growNode_360 : decode cX5_growNode 360 = .ok (.getfield 29, 3) := by decide +kernel
theorem dX5_growNode_363 : decode cX5_growNode 363 = .ok (.iload_n 2, 1) := by decide +kernel
theorem dX5_growNode_364 : decode cX5_growNode 364 = .ok (.aload_n 0, 1) := by decide +kernel
theorem dX5_growNode_365 : decode cX5_growNode 365 = .ok (.getfield 111, 3) := by decide +kernel
theorem dX5_growNode_368 : decode cX5_growNode 368 = .ok (.iastore, 1) := by decide +kernel
theorem dX5_growNode_369 : decode cX5_growNode 369 = .ok (.aload_n 0, 1) := by decide +kernel
theorem dX5_growNode_370 : decode cX5_growNode 370 = .ok (.getfield 32, 3) := by decide +kernel
theorem dX5_growNode_373 : decode cX5_growNode 373 = .ok (.iload_n 2, 1) := by decide +kernel
theorem dX5_growNode_374 : decode cX5_growNode 374 = .ok (.aload_n 0, 1) := by decide +kernel
theorem dX5_growNode_375 : decode cX5_growNode 375 = .ok (.getfield 114, 3) := by decide +kernel
theorem dX5_growNode_378 : decode cX5_growNode 378 = .ok (.iastore, 1) := by decide +kernel
theorem dX5_growNode_379 : decode cX5_growNode 379 = .ok (.aload_n 0, 1) := by decide +kernel
theorem dX5_growNode_380 : decode cX5_growNode 380 = .ok (.getfield 35, 3) := by decide +kernel
theorem dX5_growNode_383 : decode cX5_growNode 383 = .ok (.iload_n 2, 1) := by decide +kernel
theorem dX5_growNode_384 : decode cX5_growNode 384 = .ok (.aload_n 0, 1) := by decide +kernel
theorem dX5_growNode_385 : decode cX5_growNode 385 = .ok (.getfield 117, 3) := by decide +kernel
theorem dX5_growNode_388 : decode cX5_growNode 388 = .ok (.iastore, 1) := by decide +kernel
theorem dX5_growNode_389 : decode cX5_growNode 389 = .ok (.aload_n 0, 1) := by decide +kernel
theorem dX5_growNode_390 : decode cX5_growNode 390 = .ok (.getfield 108, 3) := by decide +kernel
theorem dX5_growNode_393 : decode cX5_growNode 393 = .ok (.aload_n 0, 1) := by decide +kernel
theorem dX5_growNode_394 : decode cX5_growNode 394 = .ok (.getfield 104, 3) := by decide +kernel
theorem dX5_growNode_397 : decode cX5_growNode 397 = .ok (.invokestatic 130, 3) := by decide +kernel
theorem dX5_growNode_400 : decode cX5_growNode 400 = .ok (.lstore 5, 2) := by decide +kernel
theorem dX5_growNode_402 : decode cX5_growNode 402 = .ok (.aload_n 0, 1) := by decide +kernel
theorem dX5_growNode_403 : decode cX5_growNode 403 = .ok (.getfield 44, 3) := by decide +kernel
theorem dX5_growNode_406 : decode cX5_growNode 406 = .ok (.iload_n 2, 1) := by decide +kernel
theorem dX5_growNode_407 : decode cX5_growNode 407 = .ok (.aload_n 0, 1) := by decide +kernel
theorem dX5_growNode_408 : decode cX5_growNode 408 = .ok (.getfield 108, 3) := by decide +kernel
theorem dX5_growNode_411 : decode cX5_growNode 411 = .ok (.lload 5, 2) := by decide +kernel
theorem dX5_growNode_413 : decode cX5_growNode 413 = .ok (.ldiv, 1) := by decide +kernel
theorem dX5_growNode_414 : decode cX5_growNode 414 = .ok (.lastore, 1) := by decide +kernel
theorem dX5_growNode_415 : decode cX5_growNode 415 = .ok (.aload_n 0, 1) := by decide +kernel
theorem dX5_growNode_416 : decode cX5_growNode 416 = .ok (.getfield 48, 3) := by decide +kernel
theorem dX5_growNode_419 : decode cX5_growNode 419 = .ok (.iload_n 2, 1) := by decide +kernel
theorem dX5_growNode_420 : decode cX5_growNode 420 = .ok (.aload_n 0, 1) := by decide +kernel
theorem dX5_growNode_421 : decode cX5_growNode 421 = .ok (.getfield 104, 3) := by decide +kernel
theorem dX5_growNode_424 : decode cX5_growNode 424 = .ok (.lload 5, 2) := by decide +kernel
theorem dX5_growNode_426 : decode cX5_growNode 426 = .ok (.ldiv, 1) := by decide +kernel
theorem dX5_growNode_427 : decode cX5_growNode 427 = .ok (.lastore, 1) := by decide +kernel
theorem dX5_growNode_428 : decode cX5_growNode 428 = .ok (.iconst 0, 1) := by decide +kernel
theorem dX5_growNode_429 : decode cX5_growNode 429 = .ok (.istore 7, 2) := by decide +kernel
theorem dX5_growNode_431 : decode cX5_growNode 431 = .ok (.iload 7, 2) := by decide +kernel
theorem dX5_growNode_433 : decode cX5_growNode 433 = .ok (.aload_n 0, 1) := by decide +kernel
theorem dX5_growNode_434 : decode cX5_growNode 434 = .ok (.getfield 63, 3) := by decide +kernel
theorem dX5_growNode_437 : decode cX5_growNode 437 = .ok (.if_icmp .ge 61, 3) := by decide +kernel
theorem dX5_growNode_440 : decode cX5_growNode 440 = .ok (.aload_n 0, 1) := by decide +kernel
theorem dX5_growNode_441 : decode cX5_growNode 441 = .ok (.getfield 54, 3) := by decide +kernel
theorem dX5_growNode_444 : decode cX5_growNode 444 = .ok (.iload 7, 2) := by decide +kernel
theorem dX5_growNode_446 : decode cX5_growNode 446 = .ok (.iaload, 1) := by decide +kernel
theorem dX5_growNode_447 : decode cX5_growNode 447 = .ok (.iload_n 1, 1) := by decide +kernel
theorem dX5_growNode_448 : decode cX5_growNode 448 = .ok (.if_icmp .ne 44, 3) := by decide +kernel
theorem dX5_growNode_451 : decode cX5_growNode 451 = .ok (.aload_n 0, 1) := by decide +kernel
theorem dX5_growNode_452 : decode cX5_growNode 452 = .ok (.getfield 54, 3) := by decide +kernel
theorem dX5_growNode_455 : decode cX5_growNode 455 = .ok (.iload 7, 2) := by decide +kernel
theorem dX5_growNode_457 : decode cX5_growNode 457 = .ok (.aload_n 0, 1) := by decide +kernel
theorem dX5_growNode_458 : decode cX5_growNode 458 = .ok (.iload 7, 2) := by decide +kernel
theorem dX5_growNode_460 : decode cX5_growNode 460 = .ok (.aload_n 0, 1) := by decide +kernel
theorem dX5_growNode_461 : decode cX5_growNode 461 = .ok (.getfield 111, 3) := by decide +kernel
theorem dX5_growNode_464 : decode cX5_growNode 464 = .ok (.aload_n 0, 1) := by decide +kernel
theorem dX5_growNode_465 : decode cX5_growNode 465 = .ok (.getfield 114, 3) := by decide +kernel
theorem dX5_growNode_468 : decode cX5_growNode 468 = .ok (.aload_n 0, 1) := by decide +kernel
theorem dX5_growNode_469 : decode cX5_growNode 469 = .ok (.getfield 117, 3) := by decide +kernel
theorem dX5_growNode_472 : decode cX5_growNode 472 = .ok (.invokevirtual 88, 3) := by decide +kernel
theorem dX5_growNode_475 : decode cX5_growNode 475 = .ok (.ifCond .eq 11, 3) := by decide +kernel
theorem dX5_growNode_478 : decode cX5_growNode 478 = .ok (.iconst 2, 1) := by decide +kernel
theorem dX5_growNode_479 : decode cX5_growNode 479 = .ok (.iload_n 1, 1) := by decide +kernel
theorem dX5_growNode_480 : decode cX5_growNode 480 = .ok (.imul, 1) := by decide +kernel
theorem dX5_growNode_481 : decode cX5_growNode 481 = .ok (.iconst 1, 1) := by decide +kernel
theorem dX5_growNode_482 : decode cX5_growNode 482 = .ok (.iadd, 1) := by decide +kernel
theorem dX5_growNode_483 : decode cX5_growNode 483 = .ok (.goto 8, 3) := by decide +kernel
theorem dX5_growNode_486 : decode cX5_growNode 486 = .ok (.iconst 2, 1) := by decide +kernel
theorem dX5_growNode_487 : decode cX5_growNode 487 = .ok (.iload_n 1, 1) := by decide +kernel
theorem dX5_growNode_488 : decode cX5_growNode 488 = .ok (.imul, 1) := by decide +kernel
theorem dX5_growNode_489 : decode cX5_growNode 489 = .ok (.iconst 2, 1) := by decide +kernel
theorem dX5_growNode_490 : decode cX5_growNode 490 = .ok (.iadd, 1) := by decide +kernel
theorem dX5_growNode_491 : decode cX5_growNode 491 = .ok (.iastore, 1) := by decide +kernel
theorem dX5_growNode_492 : decode cX5_growNode 492 = .ok (.iinc 7 1, 3) := by decide +kernel
theorem dX5_growNode_495 : decode cX5_growNode 495 = .ok (.goto (-64), 3) := by decide +kernel
theorem dX5_growNode_498 : decode cX5_growNode 498 = .ok (.return_, 1) := by decide +kernel
theorem dX5_common_0 : decode cX5_common 0 = .ok (.lload_n 0, 1) := by decide +kernel
theorem dX5_common_1 : decode cX5_common 1 = .ok (.lstore 4, 2) := by decide +kernel
theorem dX5_common_3 : decode cX5_common 3 = .ok (.lload_n 2, 1) := by decide +kernel
theorem dX5_common_4 : decode cX5_common 4 = .ok (.lstore 6, 2) := by decide +kernel
theorem dX5_common_6 : decode cX5_common 6 = .ok (.lload 6, 2) := by decide +kernel
theorem dX5_common_8 : decode cX5_common 8 = .ok (.lconst 0, 1) := by decide +kernel
theorem dX5_common_9 : decode cX5_common 9 = .ok (.lcmp, 1) := by decide +kernel
theorem dX5_common_10 : decode cX5_common 10 = .ok (.ifCond .eq 21, 3) := by decide +kernel
theorem dX5_common_13 : decode cX5_common 13 = .ok (.lload 4, 2) := by decide +kernel
theorem dX5_common_15 : decode cX5_common 15 = .ok (.lload 6, 2) := by decide +kernel
theorem dX5_common_17 : decode cX5_common 17 = .ok (.lrem, 1) := by decide +kernel
theorem dX5_common_18 : decode cX5_common 18 = .ok (.lstore 8, 2) := by decide +kernel
theorem dX5_common_20 : decode cX5_common 20 = .ok (.lload 6, 2) := by decide +kernel
theorem dX5_common_22 : decode cX5_common 22 = .ok (.lstore 4, 2) := by decide +kernel
theorem dX5_common_24 : decode cX5_common 24 = .ok (.lload 8, 2) := by decide +kernel
theorem dX5_common_26 : decode cX5_common 26 = .ok (.lstore 6, 2) := by decide +kernel
theorem dX5_common_28 : decode cX5_common 28 = .ok (.goto (-22), 3) := by decide +kernel
theorem dX5_common_31 : decode cX5_common 31 = .ok (.lload 4, 2) := by decide +kernel
theorem dX5_common_33 : decode cX5_common 33 = .ok (.lreturn, 1) := by decide +kernel
set_option maxRecDepth 20000 in
theorem ggX5_grow_X5_score : GoodIn wsX5_grow wsX5_score := goodIn_ca (goodIn_ca (goodIn_r _ [11, 3, 12, 13, 14, 15, 10, 16, 2, 17, 18, 19, 20, 6, 21, 22, 23, 24, 25, 26, 27, 28, 29, 30, 31, 32, 33, 70, 71, 72, 73, 74, 75, 76, 77, 78, 79, 80, 81, 82, 83, 84, 85, 86, 87, 88, 89, 90, 91, 92, 93] (by decide +kernel) (by decide +kernel)) (goodIn_sub (fun _ h => List.mem_cons_of_mem _ (List.mem_append_left _ (List.mem_append_left _ (List.mem_append_right _ h)))) (by decide +kernel))) (goodIn_sub (fun _ h => List.mem_cons_of_mem _ (List.mem_append_left _ (List.mem_append_right _ h))) (by decide +kernel))
set_option maxRecDepth 20000 in
theorem gX5_grow_X5_score : GoodIn wsX5_grow (wsV RX5 134 RX5 yX5_score wsX5_score) := goodIn_app (goodIn_of _ (by decide +kernel)) ggX5_grow_X5_score
set_option maxRecDepth 20000 in
theorem ggX5_grow_X5_pushOf : GoodIn wsX5_grow wsX5_pushOf := goodIn_ca (goodIn_ca (goodIn_r _ [37, 3, 12, 38, 39, 40, 41, 42, 10, 43, 44, 70, 71, 72, 73, 74, 75, 76, 77, 78, 79, 80, 81, 82, 83, 84, 85, 86, 87, 88, 89, 90, 91, 92, 93] (by decide +kernel) (by decide +kernel)) (goodIn_sub (fun _ h => List.mem_cons_of_mem _ (List.mem_append_left _ (List.mem_append_left _ (List.mem_append_right _ h)))) (by decide +kernel))) (goodIn_sub (fun _ h => List.mem_cons_of_mem _ (List.mem_append_left _ (List.mem_append_right _ h))) (by decide +kernel))
set_option maxRecDepth 20000 in
theorem gX5_grow_X5_pushOf : GoodIn wsX5_grow (wsV RX5 137 RX5 yX5_pushOf wsX5_pushOf) := goodIn_app (goodIn_of _ (by decide +kernel)) ggX5_grow_X5_pushOf
set_option maxRecDepth 20000 in
theorem ggX5_grow_X5_growNode : GoodIn wsX5_grow wsX5_growNode := goodIn_ca (goodIn_ca (goodIn_ca (goodIn_r _ [48, 2, 3, 4, 5, 6, 49, 24, 38, 50, 51, 29, 30, 21, 52, 22, 53, 23, 54, 55, 56, 57, 58, 10, 59, 60, 61, 62, 63, 64, 65, 66, 25, 26, 27, 28, 31, 32, 33, 67, 68, 69, 70, 71, 72, 73, 74, 75, 76, 77, 78, 79, 80, 81, 82, 83, 84, 85, 86, 87, 88, 89, 90, 91, 92, 93] (by decide +kernel) (by decide +kernel)) (goodIn_sub (fun _ h => List.mem_cons_of_mem _ (List.mem_append_left _ (List.mem_append_right _ h))) (by decide +kernel))) (goodIn_sub (fun _ h => List.mem_cons_of_mem _ (List.mem_append_left _ (List.mem_append_left _ (List.mem_append_right _ h)))) (by decide +kernel))) (goodIn_sub (fun _ h => List.mem_cons_of_mem _ (List.mem_append_right _ h)) (by decide +kernel))
set_option maxRecDepth 20000 in
theorem gX5_grow_X5_growNode : GoodIn wsX5_grow (wsV RX5 140 RX5 yX5_growNode wsX5_growNode) := goodIn_app (goodIn_of _ (by decide +kernel)) ggX5_grow_X5_growNode
theorem dX5_grow_0 : decode cX5_grow 0 = .ok (.aload_n 0, 1) := by decide +kernel
theorem dX5_grow_1 : decode cX5_grow 1 = .ok (.iconst 0, 1) := by decide +kernel
theorem dX5_grow_2 : decode cX5_grow 2 = .ok (.putfield 70, 3) := by decide +kernel
theorem dX5_grow_5 : decode cX5_grow 5 = .ok (.aload_n 0, 1) := by decide +kernel
theorem dX5_grow_6 : decode cX5_grow 6 = .ok (.getfield 67, 3) := by decide +kernel
theorem dX5_grow_9 : decode cX5_grow 9 = .ok (.bipush 20, 2) := by decide +kernel
theorem dX5_grow_11 : decode cX5_grow 11 = .ok (.if_icmp .ne 7, 3) := by decide +kernel
theorem dX5_grow_14 : decode cX5_grow 14 = .ok (.sipush (-10003), 3) := by decide +kernel
theorem dX5_grow_17 : decode cX5_grow 17 = .ok (.ireturn, 1) := by decide +kernel
theorem dX5_grow_18 : decode cX5_grow 18 = .ok (.aload_n 0, 1) := by decide +kernel
theorem dX5_grow_19 : decode cX5_grow 19 = .ok (.getfield 63, 3) := by decide +kernel
theorem dX5_grow_22 : decode cX5_grow 22 = .ok (.ifCond .ne 7, 3) := by decide +kernel
theorem dX5_grow_25 : decode cX5_grow 25 = .ok (.sipush (-10004), 3) := by decide +kernel
theorem dX5_grow_28 : decode cX5_grow 28 = .ok (.ireturn, 1) := by decide +kernel
theorem dX5_grow_29 : decode cX5_grow 29 = .ok (.aload_n 0, 1) := by decide +kernel
theorem dX5_grow_30 : decode cX5_grow 30 = .ok (.invokevirtual 134, 3) := by decide +kernel
theorem dX5_grow_33 : decode cX5_grow 33 = .ok (.iconst 0, 1) := by decide +kernel
theorem dX5_grow_34 : decode cX5_grow 34 = .ok (.istore_n 1, 1) := by decide +kernel
theorem dX5_grow_35 : decode cX5_grow 35 = .ok (.iload_n 1, 1) := by decide +kernel
theorem dX5_grow_36 : decode cX5_grow 36 = .ok (.aload_n 0, 1) := by decide +kernel
theorem dX5_grow_37 : decode cX5_grow 37 = .ok (.getfield 63, 3) := by decide +kernel
theorem dX5_grow_40 : decode cX5_grow 40 = .ok (.if_icmp .ge 27, 3) := by decide +kernel
theorem dX5_grow_43 : decode cX5_grow 43 = .ok (.aload_n 0, 1) := by decide +kernel
theorem dX5_grow_44 : decode cX5_grow 44 = .ok (.getfield 54, 3) := by decide +kernel
theorem dX5_grow_47 : decode cX5_grow 47 = .ok (.iload_n 1, 1) := by decide +kernel
theorem dX5_grow_48 : decode cX5_grow 48 = .ok (.iconst 0, 1) := by decide +kernel
theorem dX5_grow_49 : decode cX5_grow 49 = .ok (.iastore, 1) := by decide +kernel
theorem dX5_grow_50 : decode cX5_grow 50 = .ok (.aload_n 0, 1) := by decide +kernel
theorem dX5_grow_51 : decode cX5_grow 51 = .ok (.getfield 57, 3) := by decide +kernel
theorem dX5_grow_54 : decode cX5_grow 54 = .ok (.iload_n 1, 1) := by decide +kernel
theorem dX5_grow_55 : decode cX5_grow 55 = .ok (.aload_n 0, 1) := by decide +kernel
theorem dX5_grow_56 : decode cX5_grow 56 = .ok (.iload_n 1, 1) := by decide +kernel
theorem dX5_grow_57 : decode cX5_grow 57 = .ok (.invokevirtual 137, 3) := by decide +kernel
theorem dX5_grow_60 : decode cX5_grow 60 = .ok (.iastore, 1) := by decide +kernel
theorem dX5_grow_61 : decode cX5_grow 61 = .ok (.iinc 1 1, 3) := by decide +kernel
theorem dX5_grow_64 : decode cX5_grow 64 = .ok (.goto (-29), 3) := by decide +kernel
theorem dX5_grow_67 : decode cX5_grow 67 = .ok (.iconst 0, 1) := by decide +kernel
theorem dX5_grow_68 : decode cX5_grow 68 = .ok (.istore_n 1, 1) := by decide +kernel
theorem dX5_grow_69 : decode cX5_grow 69 = .ok (.iconst 0, 1) := by decide +kernel
theorem dX5_grow_70 : decode cX5_grow 70 = .ok (.istore_n 2, 1) := by decide +kernel
theorem dX5_grow_71 : decode cX5_grow 71 = .ok (.iload_n 2, 1) := by decide +kernel
theorem dX5_grow_72 : decode cX5_grow 72 = .ok (.bipush 15, 2) := by decide +kernel
theorem dX5_grow_74 : decode cX5_grow 74 = .ok (.if_icmp .ge 40, 3) := by decide +kernel
theorem dX5_grow_77 : decode cX5_grow 77 = .ok (.aload_n 0, 1) := by decide +kernel
theorem dX5_grow_78 : decode cX5_grow 78 = .ok (.iload_n 2, 1) := by decide +kernel
theorem dX5_grow_79 : decode cX5_grow 79 = .ok (.invokevirtual 140, 3) := by decide +kernel
theorem dX5_grow_82 : decode cX5_grow 82 = .ok (.iload_n 1, 1) := by decide +kernel
theorem dX5_grow_83 : decode cX5_grow 83 = .ok (.aload_n 0, 1) := by decide +kernel
theorem dX5_grow_84 : decode cX5_grow 84 = .ok (.getfield 26, 3) := by decide +kernel
theorem dX5_grow_87 : decode cX5_grow 87 = .ok (.bipush 15, 2) := by decide +kernel
theorem dX5_grow_89 : decode cX5_grow 89 = .ok (.aload_n 0, 1) := by decide +kernel
theorem dX5_grow_90 : decode cX5_grow 90 = .ok (.getfield 67, 3) := by decide +kernel
theorem dX5_grow_93 : decode cX5_grow 93 = .ok (.imul, 1) := by decide +kernel
theorem dX5_grow_94 : decode cX5_grow 94 = .ok (.iload_n 2, 1) := by decide +kernel
theorem dX5_grow_95 : decode cX5_grow 95 = .ok (.iadd, 1) := by decide +kernel
theorem dX5_grow_96 : decode cX5_grow 96 = .ok (.iaload, 1) := by decide +kernel
theorem dX5_grow_97 : decode cX5_grow 97 = .ok (.iconst 1, 1) := by decide +kernel
theorem dX5_grow_98 : decode cX5_grow 98 = .ok (.if_icmp .ne 7, 3) := by decide +kernel
theorem dX5_grow_101 : decode cX5_grow 101 = .ok (.iconst 1, 1) := by decide +kernel
theorem dX5_grow_102 : decode cX5_grow 102 = .ok (.goto 4, 3) := by decide +kernel
theorem dX5_grow_105 : decode cX5_grow 105 = .ok (.iconst 0, 1) := by decide +kernel
theorem dX5_grow_106 : decode cX5_grow 106 = .ok (.iadd, 1) := by decide +kernel
theorem dX5_grow_107 : decode cX5_grow 107 = .ok (.istore_n 1, 1) := by decide +kernel
theorem dX5_grow_108 : decode cX5_grow 108 = .ok (.iinc 2 1, 3) := by decide +kernel
theorem dX5_grow_111 : decode cX5_grow 111 = .ok (.goto (-40), 3) := by decide +kernel
theorem dX5_grow_114 : decode cX5_grow 114 = .ok (.aload_n 0, 1) := by decide +kernel
theorem dX5_grow_115 : decode cX5_grow 115 = .ok (.dup, 1) := by decide +kernel
theorem dX5_grow_116 : decode cX5_grow 116 = .ok (.getfield 67, 3) := by decide +kernel
theorem dX5_grow_119 : decode cX5_grow 119 = .ok (.iconst 1, 1) := by decide +kernel
theorem dX5_grow_120 : decode cX5_grow 120 = .ok (.iadd, 1) := by decide +kernel
theorem dX5_grow_121 : decode cX5_grow 121 = .ok (.putfield 67, 3) := by decide +kernel
theorem dX5_grow_124 : decode cX5_grow 124 = .ok (.iload_n 1, 1) := by decide +kernel
theorem dX5_grow_125 : decode cX5_grow 125 = .ok (.ireturn, 1) := by decide +kernel
theorem dX5_cut_0 : decode cX5_cut 0 = .ok (.aload_n 0, 1) := by decide +kernel
theorem dX5_cut_1 : decode cX5_cut 1 = .ok (.iconst 0, 1) := by decide +kernel
theorem dX5_cut_2 : decode cX5_cut 2 = .ok (.putfield 70, 3) := by decide +kernel
theorem dX5_cut_5 : decode cX5_cut 5 = .ok (.aload_n 0, 1) := by decide +kernel
theorem dX5_cut_6 : decode cX5_cut 6 = .ok (.getfield 67, 3) := by decide +kernel
theorem dX5_cut_9 : decode cX5_cut 9 = .ok (.ifCond .ne 7, 3) := by decide +kernel
theorem dX5_cut_12 : decode cX5_cut 12 = .ok (.sipush (-10004), 3) := by decide +kernel
theorem dX5_cut_15 : decode cX5_cut 15 = .ok (.ireturn, 1) := by decide +kernel
theorem dX5_cut_16 : decode cX5_cut 16 = .ok (.aload_n 0, 1) := by decide +kernel
theorem dX5_cut_17 : decode cX5_cut 17 = .ok (.dup, 1) := by decide +kernel
theorem dX5_cut_18 : decode cX5_cut 18 = .ok (.getfield 67, 3) := by decide +kernel
theorem dX5_cut_21 : decode cX5_cut 21 = .ok (.iconst 1, 1) := by decide +kernel
theorem dX5_cut_22 : decode cX5_cut 22 = .ok (.isub, 1) := by decide +kernel
theorem dX5_cut_23 : decode cX5_cut 23 = .ok (.putfield 67, 3) := by decide +kernel
theorem dX5_cut_26 : decode cX5_cut 26 = .ok (.aload_n 0, 1) := by decide +kernel
theorem dX5_cut_27 : decode cX5_cut 27 = .ok (.getfield 67, 3) := by decide +kernel
theorem dX5_cut_30 : decode cX5_cut 30 = .ok (.ireturn, 1) := by decide +kernel
set_option maxRecDepth 20000 in
theorem ggX5_isNode_X5_in : GoodIn wsX5_isNode wsX5_in := goodIn_r _ [6] (by decide +kernel) (by decide +kernel)
set_option maxRecDepth 20000 in
theorem gX5_isNode_X5_in : GoodIn wsX5_isNode (va_wsS RX5 73 yX5_in wsX5_in) := goodIn_app (goodIn_of _ (by decide +kernel)) ggX5_isNode_X5_in
theorem dX5_isNode_0 : decode cX5_isNode 0 = .ok (.iload_n 1, 1) := by decide +kernel
theorem dX5_isNode_1 : decode cX5_isNode 1 = .ok (.iconst 0, 1) := by decide +kernel
theorem dX5_isNode_2 : decode cX5_isNode 2 = .ok (.aload_n 0, 1) := by decide +kernel
theorem dX5_isNode_3 : decode cX5_isNode 3 = .ok (.getfield 67, 3) := by decide +kernel
theorem dX5_isNode_6 : decode cX5_isNode 6 = .ok (.iconst 1, 1) := by decide +kernel
theorem dX5_isNode_7 : decode cX5_isNode 7 = .ok (.isub, 1) := by decide +kernel
theorem dX5_isNode_8 : decode cX5_isNode 8 = .ok (.invokestatic 73, 3) := by decide +kernel
theorem dX5_isNode_11 : decode cX5_isNode 11 = .ok (.ifCond .eq 31, 3) := by decide +kernel
theorem dX5_isNode_14 : decode cX5_isNode 14 = .ok (.iload_n 2, 1) := by decide +kernel
theorem dX5_isNode_15 : decode cX5_isNode 15 = .ok (.iconst 0, 1) := by decide +kernel
theorem dX5_isNode_16 : decode cX5_isNode 16 = .ok (.bipush 14, 2) := by decide +kernel
theorem dX5_isNode_18 : decode cX5_isNode 18 = .ok (.invokestatic 73, 3) := by decide +kernel
theorem dX5_isNode_21 : decode cX5_isNode 21 = .ok (.ifCond .eq 21, 3) := by decide +kernel
theorem dX5_isNode_24 : decode cX5_isNode 24 = .ok (.aload_n 0, 1) := by decide +kernel
theorem dX5_isNode_25 : decode cX5_isNode 25 = .ok (.getfield 26, 3) := by decide +kernel
theorem dX5_isNode_28 : decode cX5_isNode 28 = .ok (.bipush 15, 2) := by decide +kernel
theorem dX5_isNode_30 : decode cX5_isNode 30 = .ok (.iload_n 1, 1) := by decide +kernel
theorem dX5_isNode_31 : decode cX5_isNode 31 = .ok (.imul, 1) := by decide +kernel
theorem dX5_isNode_32 : decode cX5_isNode 32 = .ok (.iload_n 2, 1) := by decide +kernel
theorem dX5_isNode_33 : decode cX5_isNode 33 = .ok (.iadd, 1) := by decide +kernel
theorem dX5_isNode_34 : decode cX5_isNode 34 = .ok (.iaload, 1) := by decide +kernel
theorem dX5_isNode_35 : decode cX5_isNode 35 = .ok (.ifCond .le 7, 3) := by decide +kernel
theorem dX5_isNode_38 : decode cX5_isNode 38 = .ok (.iconst 1, 1) := by decide +kernel
theorem dX5_isNode_39 : decode cX5_isNode 39 = .ok (.goto 4, 3) := by decide +kernel
theorem dX5_isNode_42 : decode cX5_isNode 42 = .ok (.iconst 0, 1) := by decide +kernel
theorem dX5_isNode_43 : decode cX5_isNode 43 = .ok (.ireturn, 1) := by decide +kernel
set_option maxRecDepth 20000 in
theorem ggX5_node_X5_isNode : GoodIn wsX5_node wsX5_isNode := goodIn_ca (goodIn_ca (goodIn_r _ [12, 13, 2, 14, 15, 11, 16, 17, 18, 19, 20, 21, 22, 23, 24, 25, 26, 27, 28, 29, 30, 31, 32, 33, 34, 35, 36, 37, 38, 39, 40] (by decide +kernel) (by decide +kernel)) (goodIn_sub (fun _ h => List.mem_cons_of_mem _ (List.mem_append_right _ h)) (by decide +kernel))) (goodIn_sub (fun _ h => List.mem_cons_of_mem _ (List.mem_append_left _ (List.mem_append_right _ h))) (by decide +kernel))
set_option maxRecDepth 20000 in
theorem gX5_node_X5_isNode : GoodIn wsX5_node (wsV RX5 144 RX5 yX5_isNode wsX5_isNode) := goodIn_app (goodIn_of _ (by decide +kernel)) ggX5_node_X5_isNode
set_option maxRecDepth 20000 in
theorem ggX5_node_X5_in : GoodIn wsX5_node wsX5_in := goodIn_r _ [16] (by decide +kernel) (by decide +kernel)
set_option maxRecDepth 20000 in
theorem gX5_node_X5_in : GoodIn wsX5_node (va_wsS RX5 73 yX5_in wsX5_in) := goodIn_app (goodIn_of _ (by decide +kernel)) ggX5_node_X5_in
theorem dX5_node_0 : decode cX5_node 0 = .ok (.aload_n 0, 1) := by decide +kernel
theorem dX5_node_1 : decode cX5_node 1 = .ok (.iconst 0, 1) := by decide +kernel
theorem dX5_node_2 : decode cX5_node 2 = .ok (.putfield 70, 3) := by decide +kernel
theorem dX5_node_5 : decode cX5_node 5 = .ok (.aload_n 0, 1) := by decide +kernel
theorem dX5_node_6 : decode cX5_node 6 = .ok (.iload_n 1, 1) := by decide +kernel
theorem dX5_node_7 : decode cX5_node 7 = .ok (.iload_n 2, 1) := by decide +kernel
theorem dX5_node_8 : decode cX5_node 8 = .ok (.invokevirtual 144, 3) := by decide +kernel
theorem dX5_node_11 : decode cX5_node 11 = .ok (.ifCond .ne 7, 3) := by decide +kernel
theorem dX5_node_14 : decode cX5_node 14 = .ok (.sipush (-10001), 3) := by decide +kernel
theorem dX5_node_17 : decode cX5_node 17 = .ok (.ireturn, 1) := by decide +kernel
theorem dX5_node_18 : decode cX5_node 18 = .ok (.bipush 15, 2) := by decide +kernel
theorem dX5_node_20 : decode cX5_node 20 = .ok (.iload_n 1, 1) := by decide +kernel
theorem dX5_node_21 : decode cX5_node 21 = .ok (.imul, 1) := by decide +kernel
theorem dX5_node_22 : decode cX5_node 22 = .ok (.iload_n 2, 1) := by decide +kernel
theorem dX5_node_23 : decode cX5_node 23 = .ok (.iadd, 1) := by decide +kernel
theorem dX5_node_24 : decode cX5_node 24 = .ok (.istore 4, 2) := by decide +kernel
theorem dX5_node_26 : decode cX5_node 26 = .ok (.aload_n 0, 1) := by decide +kernel
theorem dX5_node_27 : decode cX5_node 27 = .ok (.getfield 26, 3) := by decide +kernel
theorem dX5_node_30 : decode cX5_node 30 = .ok (.iload 4, 2) := by decide +kernel
theorem dX5_node_32 : decode cX5_node 32 = .ok (.iaload, 1) := by decide +kernel
theorem dX5_node_33 : decode cX5_node 33 = .ok (.iconst 2, 1) := by decide +kernel
theorem dX5_node_34 : decode cX5_node 34 = .ok (.if_icmp .ne 7, 3) := by decide +kernel
theorem dX5_node_37 : decode cX5_node 37 = .ok (.iconst 1, 1) := by decide +kernel
theorem dX5_node_38 : decode cX5_node 38 = .ok (.goto 4, 3) := by decide +kernel
theorem dX5_node_41 : decode cX5_node 41 = .ok (.iconst 0, 1) := by decide +kernel
theorem dX5_node_42 : decode cX5_node 42 = .ok (.istore 5, 2) := by decide +kernel
theorem dX5_node_44 : decode cX5_node 44 = .ok (.iload_n 3, 1) := by decide +kernel
theorem dX5_node_45 : decode cX5_node 45 = .ok (.iconst 0, 1) := by decide +kernel
theorem dX5_node_46 : decode cX5_node 46 = .ok (.iconst 5, 1) := by decide +kernel
theorem dX5_node_47 : decode cX5_node 47 = .ok (.invokestatic 73, 3) := by decide +kernel
theorem dX5_node_50 : decode cX5_node 50 = .ok (.ifCond .eq 27, 3) := by decide +kernel
theorem dX5_node_53 : decode cX5_node 53 = .ok (.iload_n 3, 1) := by decide +kernel
theorem dX5_node_54 : decode cX5_node 54 = .ok (.iconst 1, 1) := by decide +kernel
theorem dX5_node_55 : decode cX5_node 55 = .ok (.iconst 3, 1) := by decide +kernel
theorem dX5_node_56 : decode cX5_node 56 = .ok (.invokestatic 73, 3) := by decide +kernel
theorem dX5_node_59 : decode cX5_node 59 = .ok (.ifCond .eq 8, 3) := by decide +kernel
theorem dX5_node_62 : decode cX5_node 62 = .ok (.iload 5, 2) := by decide +kernel
theorem dX5_node_64 : decode cX5_node 64 = .ok (.ifCond .eq 13, 3) := by decide +kernel
theorem dX5_node_67 : decode cX5_node 67 = .ok (.iload_n 3, 1) := by decide +kernel
theorem dX5_node_68 : decode cX5_node 68 = .ok (.iconst 4, 1) := by decide +kernel
theorem dX5_node_69 : decode cX5_node 69 = .ok (.if_icmp .ne 12, 3) := by decide +kernel
theorem dX5_node_72 : decode cX5_node 72 = .ok (.iload 5, 2) := by decide +kernel
theorem dX5_node_74 : decode cX5_node 74 = .ok (.ifCond .eq 7, 3) := by decide +kernel
theorem dX5_node_77 : decode cX5_node 77 = .ok (.sipush (-10002), 3) := by decide +kernel
theorem dX5_node_80 : decode cX5_node 80 = .ok (.ireturn, 1) := by decide +kernel
theorem dX5_node_81 : decode cX5_node 81 = .ok (.iload_n 3, 1) := by decide +kernel
theorem dX5_node_82 : decode cX5_node 82 = .ok (.tableswitch 77 0 4 #[34, 45, 53, 61, 69], 34) := by decide +kernel
theorem dX5_node_116 : decode cX5_node 116 = .ok (.iload 5, 2) := by decide +kernel
theorem dX5_node_118 : decode cX5_node 118 = .ok (.ifCond .eq 7, 3) := by decide +kernel
theorem dX5_node_121 : decode cX5_node 121 = .ok (.iconst 1, 1) := by decide +kernel
theorem dX5_node_122 : decode cX5_node 122 = .ok (.goto 4, 3) := by decide +kernel
theorem dX5_node_125 : decode cX5_node 125 = .ok (.iconst 0, 1) := by decide +kernel
theorem dX5_node_126 : decode cX5_node 126 = .ok (.ireturn, 1) := by decide +kernel
theorem dX5_node_127 : decode cX5_node 127 = .ok (.aload_n 0, 1) := by decide +kernel
theorem dX5_node_128 : decode cX5_node 128 = .ok (.getfield 29, 3) := by decide +kernel
theorem dX5_node_131 : decode cX5_node 131 = .ok (.iload 4, 2) := by decide +kernel
theorem dX5_node_133 : decode cX5_node 133 = .ok (.iaload, 1) := by decide +kernel
theorem dX5_node_134 : decode cX5_node 134 = .ok (.ireturn, 1) := by decide +kernel
theorem dX5_node_135 : decode cX5_node 135 = .ok (.aload_n 0, 1) := by decide +kernel
theorem dX5_node_136 : decode cX5_node 136 = .ok (.getfield 32, 3) := by decide +kernel
theorem dX5_node_139 : decode cX5_node 139 = .ok (.iload 4, 2) := by decide +kernel
theorem dX5_node_141 : decode cX5_node 141 = .ok (.iaload, 1) := by decide +kernel
theorem dX5_node_142 : decode cX5_node 142 = .ok (.ireturn, 1) := by decide +kernel
theorem dX5_node_143 : decode cX5_node 143 = .ok (.aload_n 0, 1) := by decide +kernel
theorem dX5_node_144 : decode cX5_node 144 = .ok (.getfield 35, 3) := by decide +kernel
theorem dX5_node_147 : decode cX5_node 147 = .ok (.iload 4, 2) := by decide +kernel
theorem dX5_node_149 : decode cX5_node 149 = .ok (.iaload, 1) := by decide +kernel
theorem dX5_node_150 : decode cX5_node 150 = .ok (.ireturn, 1) := by decide +kernel
theorem dX5_node_151 : decode cX5_node 151 = .ok (.aload_n 0, 1) := by decide +kernel
theorem dX5_node_152 : decode cX5_node 152 = .ok (.getfield 38, 3) := by decide +kernel
theorem dX5_node_155 : decode cX5_node 155 = .ok (.iload 4, 2) := by decide +kernel
theorem dX5_node_157 : decode cX5_node 157 = .ok (.iaload, 1) := by decide +kernel
theorem dX5_node_158 : decode cX5_node 158 = .ok (.ireturn, 1) := by decide +kernel
theorem dX5_node_159 : decode cX5_node 159 = .ok (.aload_n 0, 1) := by decide +kernel
theorem dX5_node_160 : decode cX5_node 160 = .ok (.getfield 41, 3) := by decide +kernel
theorem dX5_node_163 : decode cX5_node 163 = .ok (.iload 4, 2) := by decide +kernel
theorem dX5_node_165 : decode cX5_node 165 = .ok (.iaload, 1) := by decide +kernel
theorem dX5_node_166 : decode cX5_node 166 = .ok (.ireturn, 1) := by decide +kernel
set_option maxRecDepth 20000 in
theorem ggX5_gain_X5_isNode : GoodIn wsX5_gain wsX5_isNode := goodIn_ca (goodIn_ca (goodIn_r _ [11, 12, 2, 13, 14, 10, 15, 16, 17, 18, 19, 20, 21, 22, 23, 24, 25, 26, 27, 28, 29, 30, 31, 32, 33, 34, 35, 36, 37, 38, 39] (by decide +kernel) (by decide +kernel)) (goodIn_sub (fun _ h => List.mem_cons_of_mem _ (List.mem_append_right _ h)) (by decide +kernel))) (goodIn_sub (fun _ h => List.mem_cons_of_mem _ (List.mem_append_left _ (List.mem_append_right _ h))) (by decide +kernel))
set_option maxRecDepth 20000 in
theorem gX5_gain_X5_isNode : GoodIn wsX5_gain (wsV RX5 144 RX5 yX5_isNode wsX5_isNode) := goodIn_app (goodIn_of _ (by decide +kernel)) ggX5_gain_X5_isNode
theorem dX5_gain_0 : decode cX5_gain 0 = .ok (.aload_n 0, 1) := by decide +kernel
theorem dX5_gain_1 : decode cX5_gain 1 = .ok (.iconst 0, 1) := by decide +kernel
theorem dX5_gain_2 : decode cX5_gain 2 = .ok (.putfield 70, 3) := by decide +kernel
theorem dX5_gain_5 : decode cX5_gain 5 = .ok (.aload_n 0, 1) := by decide +kernel
theorem dX5_gain_6 : decode cX5_gain 6 = .ok (.iload_n 1, 1) := by decide +kernel
theorem dX5_gain_7 : decode cX5_gain 7 = .ok (.iload_n 2, 1) := by decide +kernel
theorem dX5_gain_8 : decode cX5_gain 8 = .ok (.invokevirtual 144, 3) := by decide +kernel
theorem dX5_gain_11 : decode cX5_gain 11 = .ok (.ifCond .eq 18, 3) := by decide +kernel
theorem dX5_gain_14 : decode cX5_gain 14 = .ok (.aload_n 0, 1) := by decide +kernel
theorem dX5_gain_15 : decode cX5_gain 15 = .ok (.getfield 26, 3) := by decide +kernel
theorem dX5_gain_18 : decode cX5_gain 18 = .ok (.bipush 15, 2) := by decide +kernel
theorem dX5_gain_20 : decode cX5_gain 20 = .ok (.iload_n 1, 1) := by decide +kernel
theorem dX5_gain_21 : decode cX5_gain 21 = .ok (.imul, 1) := by decide +kernel
theorem dX5_gain_22 : decode cX5_gain 22 = .ok (.iload_n 2, 1) := by decide +kernel
theorem dX5_gain_23 : decode cX5_gain 23 = .ok (.iadd, 1) := by decide +kernel
theorem dX5_gain_24 : decode cX5_gain 24 = .ok (.iaload, 1) := by decide +kernel
theorem dX5_gain_25 : decode cX5_gain 25 = .ok (.iconst 2, 1) := by decide +kernel
theorem dX5_gain_26 : decode cX5_gain 26 = .ok (.if_icmp .eq 7, 3) := by decide +kernel
theorem dX5_gain_29 : decode cX5_gain 29 = .ok (.ldc2_w 147, 3) := by decide +kernel
theorem dX5_gain_32 : decode cX5_gain 32 = .ok (.lreturn, 1) := by decide +kernel
theorem dX5_gain_33 : decode cX5_gain 33 = .ok (.iload_n 3, 1) := by decide +kernel
theorem dX5_gain_34 : decode cX5_gain 34 = .ok (.ifCond .ne 17, 3) := by decide +kernel
theorem dX5_gain_37 : decode cX5_gain 37 = .ok (.aload_n 0, 1) := by decide +kernel
theorem dX5_gain_38 : decode cX5_gain 38 = .ok (.getfield 44, 3) := by decide +kernel
theorem dX5_gain_41 : decode cX5_gain 41 = .ok (.bipush 15, 2) := by decide +kernel
theorem dX5_gain_43 : decode cX5_gain 43 = .ok (.iload_n 1, 1) := by decide +kernel
theorem dX5_gain_44 : decode cX5_gain 44 = .ok (.imul, 1) := by decide +kernel
theorem dX5_gain_45 : decode cX5_gain 45 = .ok (.iload_n 2, 1) := by decide +kernel
theorem dX5_gain_46 : decode cX5_gain 46 = .ok (.iadd, 1) := by decide +kernel
theorem dX5_gain_47 : decode cX5_gain 47 = .ok (.laload, 1) := by decide +kernel
theorem dX5_gain_48 : decode cX5_gain 48 = .ok (.goto 25, 3) := by decide +kernel
theorem dX5_gain_51 : decode cX5_gain 51 = .ok (.iload_n 3, 1) := by decide +kernel
theorem dX5_gain_52 : decode cX5_gain 52 = .ok (.iconst 1, 1) := by decide +kernel
theorem dX5_gain_53 : decode cX5_gain 53 = .ok (.if_icmp .ne 17, 3) := by decide +kernel
theorem dX5_gain_56 : decode cX5_gain 56 = .ok (.aload_n 0, 1) := by decide +kernel
theorem dX5_gain_57 : decode cX5_gain 57 = .ok (.getfield 48, 3) := by decide +kernel
theorem dX5_gain_60 : decode cX5_gain 60 = .ok (.bipush 15, 2) := by decide +kernel
theorem dX5_gain_62 : decode cX5_gain 62 = .ok (.iload_n 1, 1) := by decide +kernel
theorem dX5_gain_63 : decode cX5_gain 63 = .ok (.imul, 1) := by decide +kernel
theorem dX5_gain_64 : decode cX5_gain 64 = .ok (.iload_n 2, 1) := by decide +kernel
theorem dX5_gain_65 : decode cX5_gain 65 = .ok (.iadd, 1) := by decide +kernel
theorem dX5_gain_66 : decode cX5_gain 66 = .ok (.laload, 1) := by decide +kernel
theorem dX5_gain_67 : decode cX5_gain 67 = .ok (.goto 6, 3) := by decide +kernel
theorem dX5_gain_70 : decode cX5_gain 70 = .ok (.ldc2_w 149, 3) := by decide +kernel
theorem dX5_gain_73 : decode cX5_gain 73 = .ok (.lreturn, 1) := by decide +kernel
set_option maxRecDepth 20000 in
theorem ggX5_score__X5_isAny : GoodIn wsX5_score_ wsX5_isAny := goodIn_ca (goodIn_r _ [7, 8, 9, 10, 6, 11, 12, 13, 14, 15, 39, 40, 41, 42, 43, 44, 45, 46, 47, 48, 49, 50, 51, 52, 53, 54, 55, 56, 57, 58, 59, 60, 61, 62] (by decide +kernel) (by decide +kernel)) (goodIn_sub (fun _ h => List.mem_cons_of_mem _ (List.mem_append_left _ (List.mem_append_right _ h))) (by decide +kernel))
set_option maxRecDepth 20000 in
theorem gX5_score__X5_isAny : GoodIn wsX5_score_ (wsV RX5 81 RX5 yX5_isAny wsX5_isAny) := goodIn_app (goodIn_of _ (by decide +kernel)) ggX5_score__X5_isAny
set_option maxRecDepth 20000 in
theorem ggX5_score__X5_scoreOf : GoodIn wsX5_score_ wsX5_scoreOf := goodIn_ca (goodIn_ca (goodIn_r _ [19, 20, 21, 22, 23, 6, 24, 25, 26, 27, 28, 29, 30, 31, 32, 33, 34, 35, 36, 37, 38, 39, 40, 41, 42, 43, 44, 45, 46, 47, 48, 49, 50, 51, 52, 53, 54, 55, 56, 57, 58, 59, 60, 61, 62] (by decide +kernel) (by decide +kernel)) (goodIn_sub (fun _ h => List.mem_cons_of_mem _ (List.mem_append_left _ (List.mem_append_right _ h))) (by decide +kernel))) (goodIn_sub (fun _ h => List.mem_cons_of_mem _ (List.mem_append_right _ h)) (by decide +kernel))
set_option maxRecDepth 20000 in
theorem gX5_score__X5_scoreOf : GoodIn wsX5_score_ (wsV RX5 96 RX5 yX5_scoreOf wsX5_scoreOf) := goodIn_app (goodIn_of _ (by decide +kernel)) ggX5_score__X5_scoreOf
theorem dX5_score__0 : decode cX5_score_ 0 = .ok (.aload_n 0, 1) := by decide +kernel
theorem dX5_score__1 : decode cX5_score_ 1 = .ok (.iconst 0, 1) := by decide +kernel
theorem dX5_score__2 : decode cX5_score_ 2 = .ok (.putfield 70, 3) := by decide +kernel
theorem dX5_score__5 : decode cX5_score_ 5 = .ok (.aload_n 0, 1) := by decide +kernel
theorem dX5_score__6 : decode cX5_score_ 6 = .ok (.iload_n 1, 1) := by decide +kernel
theorem dX5_score__7 : decode cX5_score_ 7 = .ok (.invokevirtual 81, 3) := by decide +kernel
theorem dX5_score__10 : decode cX5_score_ 10 = .ok (.ifCond .eq 11, 3) := by decide +kernel
theorem dX5_score__13 : decode cX5_score_ 13 = .ok (.aload_n 0, 1) := by decide +kernel
theorem dX5_score__14 : decode cX5_score_ 14 = .ok (.iload_n 1, 1) := by decide +kernel
theorem dX5_score__15 : decode cX5_score_ 15 = .ok (.invokevirtual 96, 3) := by decide +kernel
theorem dX5_score__18 : decode cX5_score_ 18 = .ok (.goto 6, 3) := by decide +kernel
theorem dX5_score__21 : decode cX5_score_ 21 = .ok (.ldc2_w 147, 3) := by decide +kernel
theorem dX5_score__24 : decode cX5_score_ 24 = .ok (.lreturn, 1) := by decide +kernel
set_option maxRecDepth 20000 in
theorem ggX5_value_X5_in : GoodIn wsX5_value wsX5_in := goodIn_r _ [6] (by decide +kernel) (by decide +kernel)
set_option maxRecDepth 20000 in
theorem gX5_value_X5_in : GoodIn wsX5_value (va_wsS RX5 73 yX5_in wsX5_in) := goodIn_app (goodIn_of _ (by decide +kernel)) ggX5_value_X5_in
set_option maxRecDepth 20000 in
theorem ggX5_value_X5_isAny : GoodIn wsX5_value wsX5_isAny := goodIn_ca (goodIn_r _ [10, 11, 12, 13, 5, 14, 15, 3, 4, 6, 34, 35, 36, 37, 38, 39, 40, 41, 42, 43, 44, 45, 46, 47, 48, 49, 50, 51, 52, 53, 54, 55, 56, 57] (by decide +kernel) (by decide +kernel)) (goodIn_sub (fun _ h => List.mem_cons_of_mem _ (List.mem_append_left _ (List.mem_append_right _ h))) (by decide +kernel))
set_option maxRecDepth 20000 in
theorem gX5_value_X5_isAny : GoodIn wsX5_value (wsV RX5 81 RX5 yX5_isAny wsX5_isAny) := goodIn_app (goodIn_of _ (by decide +kernel)) ggX5_value_X5_isAny
set_option maxRecDepth 20000 in
theorem ggX5_value_X5_valueBy : GoodIn wsX5_value wsX5_valueBy := goodIn_ca (goodIn_ca (goodIn_r _ [19, 20, 21, 22, 23, 24, 25, 26, 27, 5, 28, 29, 30, 31, 32, 33, 34, 35, 36, 37, 38, 39, 40, 41, 42, 43, 44, 45, 46, 47, 48, 49, 50, 51, 52, 53, 54, 55, 56, 57] (by decide +kernel) (by decide +kernel)) (goodIn_sub (fun _ h => List.mem_cons_of_mem _ (List.mem_append_right _ h)) (by decide +kernel))) (goodIn_sub (fun _ h => List.mem_cons_of_mem _ (List.mem_append_left _ (List.mem_append_right _ h))) (by decide +kernel))
set_option maxRecDepth 20000 in
theorem gX5_value_X5_valueBy : GoodIn wsX5_value (wsV RX5 92 RX5 yX5_valueBy wsX5_valueBy) := goodIn_app (goodIn_of _ (by decide +kernel)) ggX5_value_X5_valueBy
theorem dX5_value_0 : decode cX5_value 0 = .ok (.aload_n 0, 1) := by decide +kernel
theorem dX5_value_1 : decode cX5_value 1 = .ok (.iconst 0, 1) := by decide +kernel
theorem dX5_value_2 : decode cX5_value 2 = .ok (.putfield 70, 3) := by decide +kernel
theorem dX5_value_5 : decode cX5_value 5 = .ok (.iload_n 1, 1) := by decide +kernel
theorem dX5_value_6 : decode cX5_value 6 = .ok (.iconst 0, 1) := by decide +kernel
theorem dX5_value_7 : decode cX5_value 7 = .ok (.aload_n 0, 1) := by decide +kernel
theorem dX5_value_8 : decode cX5_value 8 = .ok (.getfield 67, 3) := by decide +kernel
theorem dX5_value_11 : decode cX5_value 11 = .ok (.iconst 1, 1) := by decide +kernel
theorem dX5_value_12 : decode cX5_value 12 = .ok (.isub, 1) := by decide +kernel
theorem dX5_value_13 : decode cX5_value 13 = .ok (.invokestatic 73, 3) := by decide +kernel
theorem dX5_value_16 : decode cX5_value 16 = .ok (.ifCond .eq 20, 3) := by decide +kernel
theorem dX5_value_19 : decode cX5_value 19 = .ok (.aload_n 0, 1) := by decide +kernel
theorem dX5_value_20 : decode cX5_value 20 = .ok (.iload_n 2, 1) := by decide +kernel
theorem dX5_value_21 : decode cX5_value 21 = .ok (.invokevirtual 81, 3) := by decide +kernel
theorem dX5_value_24 : decode cX5_value 24 = .ok (.ifCond .eq 12, 3) := by decide +kernel
theorem dX5_value_27 : decode cX5_value 27 = .ok (.aload_n 0, 1) := by decide +kernel
theorem dX5_value_28 : decode cX5_value 28 = .ok (.iload_n 1, 1) := by decide +kernel
theorem dX5_value_29 : decode cX5_value 29 = .ok (.iload_n 2, 1) := by decide +kernel
theorem dX5_value_30 : decode cX5_value 30 = .ok (.invokevirtual 92, 3) := by decide +kernel
theorem dX5_value_33 : decode cX5_value 33 = .ok (.goto 6, 3) := by decide +kernel
theorem dX5_value_36 : decode cX5_value 36 = .ok (.sipush (-10001), 3) := by decide +kernel
theorem dX5_value_39 : decode cX5_value 39 = .ok (.ireturn, 1) := by decide +kernel
set_option maxRecDepth 20000 in
theorem ggX5_push_X5_isThing : GoodIn wsX5_push wsX5_isThing := goodIn_r _ [6, 7, 8, 9, 5, 10, 50, 51, 52, 53, 54, 55, 56, 57, 58, 59, 60, 61, 62, 63, 64, 65, 66, 67, 68, 69, 70, 71, 72, 73] (by decide +kernel) (by decide +kernel)
set_option maxRecDepth 20000 in
theorem gX5_push_X5_isThing : GoodIn wsX5_push (wsV RX5 77 RX5 yX5_isThing wsX5_isThing) := goodIn_app (goodIn_of _ (by decide +kernel)) ggX5_push_X5_isThing
set_option maxRecDepth 20000 in
theorem ggX5_push_X5_score : GoodIn wsX5_push wsX5_score := goodIn_ca (goodIn_ca (goodIn_r _ [14, 7, 15, 16, 17, 18, 5, 19, 20, 21, 22, 23, 24, 25, 26, 27, 28, 29, 30, 31, 32, 33, 34, 35, 36, 37, 38, 50, 51, 52, 53, 54, 55, 56, 57, 58, 59, 60, 61, 62, 63, 64, 65, 66, 67, 68, 69, 70, 71, 72, 73] (by decide +kernel) (by decide +kernel)) (goodIn_sub (fun _ h => List.mem_cons_of_mem _ (List.mem_append_left _ (List.mem_append_right _ h))) (by decide +kernel))) (goodIn_sub (fun _ h => List.mem_cons_of_mem _ (List.mem_append_right _ h)) (by decide +kernel))
set_option maxRecDepth 20000 in
theorem gX5_push_X5_score : GoodIn wsX5_push (wsV RX5 134 RX5 yX5_score wsX5_score) := goodIn_app (goodIn_of _ (by decide +kernel)) ggX5_push_X5_score
set_option maxRecDepth 20000 in
theorem ggX5_push_X5_pushOf : GoodIn wsX5_push wsX5_pushOf := goodIn_ca (goodIn_ca (goodIn_r _ [42, 7, 15, 43, 44, 45, 46, 47, 5, 48, 49, 50, 51, 52, 53, 54, 55, 56, 57, 58, 59, 60, 61, 62, 63, 64, 65, 66, 67, 68, 69, 70, 71, 72, 73] (by decide +kernel) (by decide +kernel)) (goodIn_sub (fun _ h => List.mem_cons_of_mem _ (List.mem_append_left _ (List.mem_append_right _ h))) (by decide +kernel))) (goodIn_sub (fun _ h => List.mem_cons_of_mem _ (List.mem_append_right _ h)) (by decide +kernel))
set_option maxRecDepth 20000 in
theorem gX5_push_X5_pushOf : GoodIn wsX5_push (wsV RX5 137 RX5 yX5_pushOf wsX5_pushOf) := goodIn_app (goodIn_of _ (by decide +kernel)) ggX5_push_X5_pushOf
theorem dX5_push_0 : decode cX5_push 0 = .ok (.aload_n 0, 1) := by decide +kernel
theorem dX5_push_1 : decode cX5_push 1 = .ok (.iconst 0, 1) := by decide +kernel
theorem dX5_push_2 : decode cX5_push 2 = .ok (.putfield 70, 3) := by decide +kernel
theorem dX5_push_5 : decode cX5_push 5 = .ok (.aload_n 0, 1) := by decide +kernel
theorem dX5_push_6 : decode cX5_push 6 = .ok (.iload_n 1, 1) := by decide +kernel
theorem dX5_push_7 : decode cX5_push 7 = .ok (.invokevirtual 77, 3) := by decide +kernel
theorem dX5_push_10 : decode cX5_push 10 = .ok (.ifCond .ne 7, 3) := by decide +kernel
theorem dX5_push_13 : decode cX5_push 13 = .ok (.sipush (-10001), 3) := by decide +kernel
theorem dX5_push_16 : decode cX5_push 16 = .ok (.ireturn, 1) := by decide +kernel
theorem dX5_push_17 : decode cX5_push 17 = .ok (.aload_n 0, 1) := by decide +kernel
theorem dX5_push_18 : decode cX5_push 18 = .ok (.invokevirtual 134, 3) := by decide +kernel
theorem dX5_push_21 : decode cX5_push 21 = .ok (.aload_n 0, 1) := by decide +kernel
theorem dX5_push_22 : decode cX5_push 22 = .ok (.iload_n 1, 1) := by decide +kernel
theorem dX5_push_23 : decode cX5_push 23 = .ok (.invokevirtual 137, 3) := by decide +kernel
theorem dX5_push_26 : decode cX5_push 26 = .ok (.ireturn, 1) := by decide +kernel
set_option maxRecDepth 20000 in
theorem ggX5_ranked_X5_in : GoodIn wsX5_ranked wsX5_in := goodIn_r _ [8] (by decide +kernel) (by decide +kernel)
set_option maxRecDepth 20000 in
theorem gX5_ranked_X5_in : GoodIn wsX5_ranked (va_wsS RX5 73 yX5_in wsX5_in) := goodIn_app (goodIn_of _ (by decide +kernel)) ggX5_ranked_X5_in
set_option maxRecDepth 20000 in
theorem ggX5_ranked_X5_score : GoodIn wsX5_ranked wsX5_score := goodIn_ca (goodIn_ca (goodIn_r _ [12, 2, 3, 13, 14, 15, 7, 16, 17, 18, 19, 20, 21, 22, 23, 24, 25, 26, 27, 28, 29, 30, 31, 32, 33, 34, 35, 36, 37, 38, 39, 40, 41, 42, 43, 44, 45, 46, 47, 48, 49, 50, 51, 52, 53, 54, 55, 56, 57, 58, 59] (by decide +kernel) (by decide +kernel)) (goodIn_sub (fun _ h => List.mem_cons_of_mem _ (List.mem_append_left _ (List.mem_append_right _ h))) (by decide +kernel))) (goodIn_sub (fun _ h => List.mem_cons_of_mem _ (List.mem_append_right _ h)) (by decide +kernel))
set_option maxRecDepth 20000 in
theorem gX5_ranked_X5_score : GoodIn wsX5_ranked (wsV RX5 134 RX5 yX5_score wsX5_score) := goodIn_app (goodIn_of _ (by decide +kernel)) ggX5_ranked_X5_score
theorem dX5_ranked_0 : decode cX5_ranked 0 = .ok (.aload_n 0, 1) := by decide +kernel
theorem dX5_ranked_1 : decode cX5_ranked 1 = .ok (.iconst 0, 1) := by decide +kernel
theorem dX5_ranked_2 : decode cX5_ranked 2 = .ok (.putfield 70, 3) := by decide +kernel
theorem dX5_ranked_5 : decode cX5_ranked 5 = .ok (.iload_n 1, 1) := by decide +kernel
theorem dX5_ranked_6 : decode cX5_ranked 6 = .ok (.iconst 0, 1) := by decide +kernel
theorem dX5_ranked_7 : decode cX5_ranked 7 = .ok (.iconst 3, 1) := by decide +kernel
theorem dX5_ranked_8 : decode cX5_ranked 8 = .ok (.invokestatic 73, 3) := by decide +kernel
theorem dX5_ranked_11 : decode cX5_ranked 11 = .ok (.ifCond .ne 7, 3) := by decide +kernel
theorem dX5_ranked_14 : decode cX5_ranked 14 = .ok (.sipush (-10002), 3) := by decide +kernel
theorem dX5_ranked_17 : decode cX5_ranked 17 = .ok (.ireturn, 1) := by decide +kernel
theorem dX5_ranked_18 : decode cX5_ranked 18 = .ok (.aload_n 0, 1) := by decide +kernel
theorem dX5_ranked_19 : decode cX5_ranked 19 = .ok (.invokevirtual 134, 3) := by decide +kernel
theorem dX5_ranked_22 : decode cX5_ranked 22 = .ok (.iconst 0, 1) := by decide +kernel
theorem dX5_ranked_23 : decode cX5_ranked 23 = .ok (.istore_n 3, 1) := by decide +kernel
theorem dX5_ranked_24 : decode cX5_ranked 24 = .ok (.iload_n 3, 1) := by decide +kernel
theorem dX5_ranked_25 : decode cX5_ranked 25 = .ok (.aload_n 0, 1) := by decide +kernel
theorem dX5_ranked_26 : decode cX5_ranked 26 = .ok (.getfield 63, 3) := by decide +kernel
theorem dX5_ranked_29 : decode cX5_ranked 29 = .ok (.if_icmp .ge 121, 3) := by decide +kernel
theorem dX5_ranked_32 : decode cX5_ranked 32 = .ok (.iconst 0, 1) := by decide +kernel
theorem dX5_ranked_33 : decode cX5_ranked 33 = .ok (.istore 4, 2) := by decide +kernel
theorem dX5_ranked_35 : decode cX5_ranked 35 = .ok (.iconst 0, 1) := by decide +kernel
theorem dX5_ranked_36 : decode cX5_ranked 36 = .ok (.istore 5, 2) := by decide +kernel
theorem dX5_ranked_38 : decode cX5_ranked 38 = .ok (.iload 5, 2) := by decide +kernel
theorem dX5_ranked_40 : decode cX5_ranked 40 = .ok (.aload_n 0, 1) := by decide +kernel
theorem dX5_ranked_41 : decode cX5_ranked 41 = .ok (.getfield 63, 3) := by decide +kernel
theorem dX5_ranked_44 : decode cX5_ranked 44 = .ok (.if_icmp .ge 82, 3) := by decide +kernel
theorem dX5_ranked_47 : decode cX5_ranked 47 = .ok (.aload_n 0, 1) := by decide +kernel
theorem dX5_ranked_48 : decode cX5_ranked 48 = .ok (.getfield 51, 3) := by decide +kernel
theorem dX5_ranked_51 : decode cX5_ranked 51 = .ok (.iload 5, 2) := by decide +kernel
theorem dX5_ranked_53 : decode cX5_ranked 53 = .ok (.laload, 1) := by decide +kernel
theorem dX5_ranked_54 : decode cX5_ranked 54 = .ok (.aload_n 0, 1) := by decide +kernel
theorem dX5_ranked_55 : decode cX5_ranked 55 = .ok (.getfield 51, 3) := by decide +kernel
theorem dX5_ranked_58 : decode cX5_ranked 58 = .ok (.iload_n 3, 1) := by decide +kernel
theorem dX5_ranked_59 : decode cX5_ranked 59 = .ok (.laload, 1) := by decide +kernel
theorem dX5_ranked_60 : decode cX5_ranked 60 = .ok (.lcmp, 1) := by decide +kernel
theorem dX5_ranked_61 : decode cX5_ranked 61 = .ok (.ifCond .gt 26, 3) := by decide +kernel
theorem dX5_ranked_64 : decode cX5_ranked 64 = .ok (.aload_n 0, 1) := by decide +kernel
theorem dX5_ranked_65 : decode cX5_ranked 65 = .ok (.getfield 51, 3) := by decide +kernel
theorem dX5_ranked_68 : decode cX5_ranked 68 = .ok (.iload 5, 2) := by decide +kernel
theorem dX5_ranked_70 : decode cX5_ranked 70 = .ok (.laload, 1) := by decide +kernel
theorem dX5_ranked_71 : decode cX5_ranked 71 = .ok (.aload_n 0, 1) := by decide +kernel
theorem dX5_ranked_72 : decode cX5_ranked 72 = .ok (.getfield 51, 3) := by decide +kernel
theorem dX5_ranked_75 : decode cX5_ranked 75 = .ok (.iload_n 3, 1) := by decide +kernel
theorem dX5_ranked_76 : decode cX5_ranked 76 = .ok (.laload, 1) := by decide +kernel
theorem dX5_ranked_77 : decode cX5_ranked 77 = .ok (.lcmp, 1) := by decide +kernel
theorem dX5_ranked_78 : decode cX5_ranked 78 = .ok (.ifCond .ne 13, 3) := by decide +kernel
theorem dX5_ranked_81 : decode cX5_ranked 81 = .ok (.iload 5, 2) := by decide +kernel
theorem dX5_ranked_83 : decode cX5_ranked 83 = .ok (.iload_n 3, 1) := by decide +kernel
theorem dX5_ranked_84 : decode cX5_ranked 84 = .ok (.if_icmp .ge 7, 3) := by decide +kernel
theorem dX5_ranked_87 : decode cX5_ranked 87 = .ok (.iconst 1, 1) := by decide +kernel
theorem dX5_ranked_88 : decode cX5_ranked 88 = .ok (.goto 4, 3) := by decide +kernel
theorem dX5_ranked_91 : decode cX5_ranked 91 = .ok (.iconst 0, 1) := by decide +kernel
theorem dX5_ranked_92 : decode cX5_ranked 92 = .ok (.istore 6, 2) := by decide +kernel
theorem dX5_ranked_94 : decode cX5_ranked 94 = .ok (.iload 4, 2) := by decide +kernel
theorem dX5_ranked_96 : decode cX5_ranked 96 = .ok (.aload_n 0, 1) := by decide +kernel
theorem dX5_ranked_97 : decode cX5_ranked 97 = .ok (.getfield 7, 3) := by decide +kernel
theorem dX5_ranked_100 : decode cX5_ranked 100 = .ok (.iload 5, 2) := by decide +kernel
theorem dX5_ranked_102 : decode cX5_ranked 102 = .ok (.iaload, 1) := by decide +kernel
theorem dX5_ranked_103 : decode cX5_ranked 103 = .ok (.iload_n 1, 1) := by decide +kernel
theorem dX5_ranked_104 : decode cX5_ranked 104 = .ok (.if_icmp .ne 12, 3) := by decide +kernel
theorem dX5_ranked_107 : decode cX5_ranked 107 = .ok (.iload 6, 2) := by decide +kernel
theorem dX5_ranked_109 : decode cX5_ranked 109 = .ok (.ifCond .eq 7, 3) := by decide +kernel
theorem dX5_ranked_112 : decode cX5_ranked 112 = .ok (.iconst 1, 1) := by decide +kernel
theorem dX5_ranked_113 : decode cX5_ranked 113 = .ok (.goto 4, 3) := by decide +kernel
theorem dX5_ranked_116 : decode cX5_ranked 116 = .ok (.iconst 0, 1) := by decide +kernel
theorem dX5_ranked_117 : decode cX5_ranked 117 = .ok (.iadd, 1) := by decide +kernel
theorem dX5_ranked_118 : decode cX5_ranked 118 = .ok (.istore 4, 2) := by decide +kernel
theorem dX5_ranked_120 : decode cX5_ranked 120 = .ok (.iinc 5 1, 3) := by decide +kernel
theorem dX5_ranked_123 : decode cX5_ranked 123 = .ok (.goto (-85), 3) := by decide +kernel
theorem dX5_ranked_126 : decode cX5_ranked 126 = .ok (.aload_n 0, 1) := by decide +kernel
theorem dX5_ranked_127 : decode cX5_ranked 127 = .ok (.getfield 7, 3) := by decide +kernel
theorem dX5_ranked_130 : decode cX5_ranked 130 = .ok (.iload_n 3, 1) := by decide +kernel
theorem dX5_ranked_131 : decode cX5_ranked 131 = .ok (.iaload, 1) := by decide +kernel
theorem dX5_ranked_132 : decode cX5_ranked 132 = .ok (.iload_n 1, 1) := by decide +kernel
theorem dX5_ranked_133 : decode cX5_ranked 133 = .ok (.if_icmp .ne 11, 3) := by decide +kernel
theorem dX5_ranked_136 : decode cX5_ranked 136 = .ok (.iload 4, 2) := by decide +kernel
theorem dX5_ranked_138 : decode cX5_ranked 138 = .ok (.iload_n 2, 1) := by decide +kernel
theorem dX5_ranked_139 : decode cX5_ranked 139 = .ok (.if_icmp .ne 5, 3) := by decide +kernel
theorem dX5_ranked_142 : decode cX5_ranked 142 = .ok (.iload_n 3, 1) := by decide +kernel
theorem dX5_ranked_143 : decode cX5_ranked 143 = .ok (.ireturn, 1) := by decide +kernel
theorem dX5_ranked_144 : decode cX5_ranked 144 = .ok (.iinc 3 1, 3) := by decide +kernel
theorem dX5_ranked_147 : decode cX5_ranked 147 = .ok (.goto (-123), 3) := by decide +kernel
theorem dX5_ranked_150 : decode cX5_ranked 150 = .ok (.iconst (-1), 1) := by decide +kernel
theorem dX5_ranked_151 : decode cX5_ranked 151 = .ok (.ireturn, 1) := by decide +kernel
set_option maxRecDepth 20000 in
theorem ggX5_countPairs_X5_score : GoodIn wsX5_countPairs wsX5_score := goodIn_ca (goodIn_ca (goodIn_r _ [8, 1, 3, 9, 10, 11, 7, 12, 13, 14, 15, 16, 17, 18, 19, 20, 21, 22, 23, 24, 25, 26, 27, 28, 29, 30, 31, 37, 38, 39, 40, 41, 42, 43, 44, 45, 46, 47, 48, 49, 50, 51, 52, 53, 54, 55, 56, 57, 58, 59, 60] (by decide +kernel) (by decide +kernel)) (goodIn_sub (fun _ h => List.mem_cons_of_mem _ (List.mem_append_left _ (List.mem_append_right _ h))) (by decide +kernel))) (goodIn_sub (fun _ h => List.mem_cons_of_mem _ (List.mem_append_right _ h)) (by decide +kernel))
set_option maxRecDepth 20000 in
theorem gX5_countPairs_X5_score : GoodIn wsX5_countPairs (wsV RX5 134 RX5 yX5_score wsX5_score) := goodIn_app (goodIn_of _ (by decide +kernel)) ggX5_countPairs_X5_score
set_option maxRecDepth 20000 in
theorem ggX5_countPairs_X5_isPair : GoodIn wsX5_countPairs wsX5_isPair := goodIn_ca (goodIn_ca (goodIn_r _ [35, 2, 36, 37, 38, 39, 40, 41, 42, 43, 44, 45, 46, 47, 48, 49, 50, 51, 52, 53, 54, 55, 56, 57, 58, 59, 60] (by decide +kernel) (by decide +kernel)) (goodIn_sub (fun _ h => List.mem_cons_of_mem _ (List.mem_append_right _ h)) (by decide +kernel))) (goodIn_sub (fun _ h => List.mem_cons_of_mem _ (List.mem_append_left _ (List.mem_append_right _ h))) (by decide +kernel))
set_option maxRecDepth 20000 in
theorem gX5_countPairs_X5_isPair : GoodIn wsX5_countPairs (wsV RX5 100 RX5 yX5_isPair wsX5_isPair) := goodIn_app (goodIn_of _ (by decide +kernel)) ggX5_countPairs_X5_isPair
theorem dX5_countPairs_0 : decode cX5_countPairs 0 = .ok (.aload_n 0, 1) := by decide +kernel
theorem dX5_countPairs_1 : decode cX5_countPairs 1 = .ok (.invokevirtual 134, 3) := by decide +kernel
theorem dX5_countPairs_4 : decode cX5_countPairs 4 = .ok (.iconst 0, 1) := by decide +kernel
theorem dX5_countPairs_5 : decode cX5_countPairs 5 = .ok (.istore_n 3, 1) := by decide +kernel
theorem dX5_countPairs_6 : decode cX5_countPairs 6 = .ok (.iconst 0, 1) := by decide +kernel
theorem dX5_countPairs_7 : decode cX5_countPairs 7 = .ok (.istore 4, 2) := by decide +kernel
theorem dX5_countPairs_9 : decode cX5_countPairs 9 = .ok (.iload 4, 2) := by decide +kernel
theorem dX5_countPairs_11 : decode cX5_countPairs 11 = .ok (.aload_n 0, 1) := by decide +kernel
theorem dX5_countPairs_12 : decode cX5_countPairs 12 = .ok (.getfield 63, 3) := by decide +kernel
theorem dX5_countPairs_15 : decode cX5_countPairs 15 = .ok (.if_icmp .ge 96, 3) := by decide +kernel
theorem dX5_countPairs_18 : decode cX5_countPairs 18 = .ok (.iconst 0, 1) := by decide +kernel
theorem dX5_countPairs_19 : decode cX5_countPairs 19 = .ok (.istore 5, 2) := by decide +kernel
theorem dX5_countPairs_21 : decode cX5_countPairs 21 = .ok (.iload 5, 2) := by decide +kernel
theorem dX5_countPairs_23 : decode cX5_countPairs 23 = .ok (.aload_n 0, 1) := by decide +kernel
theorem dX5_countPairs_24 : decode cX5_countPairs 24 = .ok (.getfield 63, 3) := by decide +kernel
theorem dX5_countPairs_27 : decode cX5_countPairs 27 = .ok (.if_icmp .ge 78, 3) := by decide +kernel
theorem dX5_countPairs_30 : decode cX5_countPairs 30 = .ok (.aload_n 0, 1) := by decide +kernel
theorem dX5_countPairs_31 : decode cX5_countPairs 31 = .ok (.iload 4, 2) := by decide +kernel
theorem dX5_countPairs_33 : decode cX5_countPairs 33 = .ok (.iload 5, 2) := by decide +kernel
theorem dX5_countPairs_35 : decode cX5_countPairs 35 = .ok (.invokevirtual 100, 3) := by decide +kernel
theorem dX5_countPairs_38 : decode cX5_countPairs 38 = .ok (.ifCond .eq 45, 3) := by decide +kernel
theorem dX5_countPairs_41 : decode cX5_countPairs 41 = .ok (.iload_n 1, 1) := by decide +kernel
theorem dX5_countPairs_42 : decode cX5_countPairs 42 = .ok (.iconst (-1), 1) := by decide +kernel
theorem dX5_countPairs_43 : decode cX5_countPairs 43 = .ok (.if_icmp .eq 14, 3) := by decide +kernel
theorem dX5_countPairs_46 : decode cX5_countPairs 46 = .ok (.aload_n 0, 1) := by decide +kernel
theorem dX5_countPairs_47 : decode cX5_countPairs 47 = .ok (.getfield 7, 3) := by decide +kernel
theorem dX5_countPairs_50 : decode cX5_countPairs 50 = .ok (.iload 4, 2) := by decide +kernel
theorem dX5_countPairs_52 : decode cX5_countPairs 52 = .ok (.iaload, 1) := by decide +kernel
theorem dX5_countPairs_53 : decode cX5_countPairs 53 = .ok (.iload_n 1, 1) := by decide +kernel
theorem dX5_countPairs_54 : decode cX5_countPairs 54 = .ok (.if_icmp .ne 29, 3) := by decide +kernel
theorem dX5_countPairs_57 : decode cX5_countPairs 57 = .ok (.iload_n 2, 1) := by decide +kernel
theorem dX5_countPairs_58 : decode cX5_countPairs 58 = .ok (.ifCond .eq 21, 3) := by decide +kernel
theorem dX5_countPairs_61 : decode cX5_countPairs 61 = .ok (.aload_n 0, 1) := by decide +kernel
theorem dX5_countPairs_62 : decode cX5_countPairs 62 = .ok (.getfield 51, 3) := by decide +kernel
theorem dX5_countPairs_65 : decode cX5_countPairs 65 = .ok (.iload 4, 2) := by decide +kernel
theorem dX5_countPairs_67 : decode cX5_countPairs 67 = .ok (.laload, 1) := by decide +kernel
theorem dX5_countPairs_68 : decode cX5_countPairs 68 = .ok (.aload_n 0, 1) := by decide +kernel
theorem dX5_countPairs_69 : decode cX5_countPairs 69 = .ok (.getfield 51, 3) := by decide +kernel
theorem dX5_countPairs_72 : decode cX5_countPairs 72 = .ok (.iload 5, 2) := by decide +kernel
theorem dX5_countPairs_74 : decode cX5_countPairs 74 = .ok (.laload, 1) := by decide +kernel
theorem dX5_countPairs_75 : decode cX5_countPairs 75 = .ok (.lcmp, 1) := by decide +kernel
theorem dX5_countPairs_76 : decode cX5_countPairs 76 = .ok (.ifCond .gt 7, 3) := by decide +kernel
theorem dX5_countPairs_79 : decode cX5_countPairs 79 = .ok (.iconst 1, 1) := by decide +kernel
theorem dX5_countPairs_80 : decode cX5_countPairs 80 = .ok (.goto 4, 3) := by decide +kernel
theorem dX5_countPairs_83 : decode cX5_countPairs 83 = .ok (.iconst 0, 1) := by decide +kernel
theorem dX5_countPairs_84 : decode cX5_countPairs 84 = .ok (.istore 6, 2) := by decide +kernel
theorem dX5_countPairs_86 : decode cX5_countPairs 86 = .ok (.iload_n 3, 1) := by decide +kernel
theorem dX5_countPairs_87 : decode cX5_countPairs 87 = .ok (.iload 6, 2) := by decide +kernel
theorem dX5_countPairs_89 : decode cX5_countPairs 89 = .ok (.ifCond .eq 7, 3) := by decide +kernel
theorem dX5_countPairs_92 : decode cX5_countPairs 92 = .ok (.iconst 1, 1) := by decide +kernel
theorem dX5_countPairs_93 : decode cX5_countPairs 93 = .ok (.goto 4, 3) := by decide +kernel
theorem dX5_countPairs_96 : decode cX5_countPairs 96 = .ok (.iconst 0, 1) := by decide +kernel
theorem dX5_countPairs_97 : decode cX5_countPairs 97 = .ok (.iadd, 1) := by decide +kernel
theorem dX5_countPairs_98 : decode cX5_countPairs 98 = .ok (.istore_n 3, 1) := by decide +kernel
theorem dX5_countPairs_99 : decode cX5_countPairs 99 = .ok (.iinc 5 1, 3) := by decide +kernel
theorem dX5_countPairs_102 : decode cX5_countPairs 102 = .ok (.goto (-81), 3) := by decide +kernel
theorem dX5_countPairs_105 : decode cX5_countPairs 105 = .ok (.iinc 4 1, 3) := by decide +kernel
theorem dX5_countPairs_108 : decode cX5_countPairs 108 = .ok (.goto (-99), 3) := by decide +kernel
theorem dX5_countPairs_111 : decode cX5_countPairs 111 = .ok (.iload_n 3, 1) := by decide +kernel
theorem dX5_countPairs_112 : decode cX5_countPairs 112 = .ok (.ireturn, 1) := by decide +kernel
set_option maxRecDepth 20000 in
theorem ggX5_pairs_X5_in : GoodIn wsX5_pairs wsX5_in := goodIn_r _ [5] (by decide +kernel) (by decide +kernel)
set_option maxRecDepth 20000 in
theorem gX5_pairs_X5_in : GoodIn wsX5_pairs (va_wsS RX5 73 yX5_in wsX5_in) := goodIn_app (goodIn_of _ (by decide +kernel)) ggX5_pairs_X5_in
set_option maxRecDepth 20000 in
theorem ggX5_pairs_X5_countPairs : GoodIn wsX5_pairs wsX5_countPairs := goodIn_ca (goodIn_ca (goodIn_r _ [9, 10, 11, 12, 13, 14, 15, 4, 16, 17, 18, 19, 20, 21, 22, 23, 24, 25, 26, 27, 28, 29, 30, 31, 32, 33, 34, 35, 36, 37, 38, 39, 40, 41, 42, 43, 44, 45, 46, 47, 48, 49, 50, 51, 52, 53, 54, 55, 56, 57, 58, 59, 60, 61, 62, 63, 64, 65, 66, 67, 68] (by decide +kernel) (by decide +kernel)) (goodIn_sub (fun _ h => List.mem_cons_of_mem _ (List.mem_append_left _ (List.mem_append_right _ h))) (by decide +kernel))) (goodIn_sub (fun _ h => List.mem_cons_of_mem _ (List.mem_append_right _ h)) (by decide +kernel))
set_option maxRecDepth 20000 in
theorem gX5_pairs_X5_countPairs : GoodIn wsX5_pairs (wsV RX5 151 RX5 yX5_countPairs wsX5_countPairs) := goodIn_app (goodIn_of _ (by decide +kernel)) ggX5_pairs_X5_countPairs
theorem dX5_pairs_0 : decode cX5_pairs 0 = .ok (.aload_n 0, 1) := by decide +kernel
theorem dX5_pairs_1 : decode cX5_pairs 1 = .ok (.iconst 0, 1) := by decide +kernel
theorem dX5_pairs_2 : decode cX5_pairs 2 = .ok (.putfield 70, 3) := by decide +kernel
theorem dX5_pairs_5 : decode cX5_pairs 5 = .ok (.iload_n 1, 1) := by decide +kernel
theorem dX5_pairs_6 : decode cX5_pairs 6 = .ok (.iconst (-1), 1) := by decide +kernel
theorem dX5_pairs_7 : decode cX5_pairs 7 = .ok (.iconst 3, 1) := by decide +kernel
theorem dX5_pairs_8 : decode cX5_pairs 8 = .ok (.invokestatic 73, 3) := by decide +kernel
theorem dX5_pairs_11 : decode cX5_pairs 11 = .ok (.ifCond .eq 30, 3) := by decide +kernel
theorem dX5_pairs_14 : decode cX5_pairs 14 = .ok (.iload_n 2, 1) := by decide +kernel
theorem dX5_pairs_15 : decode cX5_pairs 15 = .ok (.iconst 0, 1) := by decide +kernel
theorem dX5_pairs_16 : decode cX5_pairs 16 = .ok (.iconst 1, 1) := by decide +kernel
theorem dX5_pairs_17 : decode cX5_pairs 17 = .ok (.invokestatic 73, 3) := by decide +kernel
theorem dX5_pairs_20 : decode cX5_pairs 20 = .ok (.ifCond .eq 21, 3) := by decide +kernel
theorem dX5_pairs_23 : decode cX5_pairs 23 = .ok (.aload_n 0, 1) := by decide +kernel
theorem dX5_pairs_24 : decode cX5_pairs 24 = .ok (.iload_n 1, 1) := by decide +kernel
theorem dX5_pairs_25 : decode cX5_pairs 25 = .ok (.iload_n 2, 1) := by decide +kernel
theorem dX5_pairs_26 : decode cX5_pairs 26 = .ok (.iconst 1, 1) := by decide +kernel
theorem dX5_pairs_27 : decode cX5_pairs 27 = .ok (.if_icmp .ne 7, 3) := by decide +kernel
theorem dX5_pairs_30 : decode cX5_pairs 30 = .ok (.iconst 1, 1) := by decide +kernel
theorem dX5_pairs_31 : decode cX5_pairs 31 = .ok (.goto 4, 3) := by decide +kernel
theorem dX5_pairs_34 : decode cX5_pairs 34 = .ok (.iconst 0, 1) := by decide +kernel
theorem dX5_pairs_35 : decode cX5_pairs 35 = .ok (.invokevirtual 151, 3) := by decide +kernel
theorem dX5_pairs_38 : decode cX5_pairs 38 = .ok (.goto 6, 3) := by decide +kernel
theorem dX5_pairs_41 : decode cX5_pairs 41 = .ok (.sipush (-10002), 3) := by decide +kernel
theorem dX5_pairs_44 : decode cX5_pairs 44 = .ok (.ireturn, 1) := by decide +kernel
set_option maxRecDepth 20000 in
theorem ggX5_share_X5_in : GoodIn wsX5_share wsX5_in := goodIn_r _ [5] (by decide +kernel) (by decide +kernel)
set_option maxRecDepth 20000 in
theorem gX5_share_X5_in : GoodIn wsX5_share (va_wsS RX5 73 yX5_in wsX5_in) := goodIn_app (goodIn_of _ (by decide +kernel)) ggX5_share_X5_in
set_option maxRecDepth 20000 in
theorem ggX5_share_X5_countPairs : GoodIn wsX5_share wsX5_countPairs := goodIn_ca (goodIn_ca (goodIn_r _ [9, 10, 11, 12, 13, 14, 15, 4, 16, 17, 18, 19, 20, 21, 22, 23, 24, 25, 26, 27, 28, 29, 30, 31, 32, 33, 34, 35, 36, 37, 38, 39, 40, 41, 42, 43, 44, 45, 46, 47, 48, 49, 50, 51, 52, 53, 54, 55, 56, 57, 58, 59, 60, 61, 62, 63, 64, 65, 66, 67, 68] (by decide +kernel) (by decide +kernel)) (goodIn_sub (fun _ h => List.mem_cons_of_mem _ (List.mem_append_left _ (List.mem_append_left _ (List.mem_append_right _ h)))) (by decide +kernel))) (goodIn_sub (fun _ h => List.mem_cons_of_mem _ (List.mem_append_right _ h)) (by decide +kernel))
set_option maxRecDepth 20000 in
theorem gX5_share_X5_countPairs : GoodIn wsX5_share (wsV RX5 151 RX5 yX5_countPairs wsX5_countPairs) := goodIn_app (goodIn_of _ (by decide +kernel)) ggX5_share_X5_countPairs
theorem dX5_share_0 : decode cX5_share 0 = .ok (.aload_n 0, 1) := by decide +kernel
theorem dX5_share_1 : decode cX5_share 1 = .ok (.iconst 0, 1) := by decide +kernel
theorem dX5_share_2 : decode cX5_share 2 = .ok (.putfield 70, 3) := by decide +kernel
theorem dX5_share_5 : decode cX5_share 5 = .ok (.iload_n 1, 1) := by decide +kernel
theorem dX5_share_6 : decode cX5_share 6 = .ok (.iconst (-1), 1) := by decide +kernel
theorem dX5_share_7 : decode cX5_share 7 = .ok (.iconst 3, 1) := by decide +kernel
theorem dX5_share_8 : decode cX5_share 8 = .ok (.invokestatic 73, 3) := by decide +kernel
theorem dX5_share_11 : decode cX5_share 11 = .ok (.ifCond .ne 7, 3) := by decide +kernel
theorem dX5_share_14 : decode cX5_share 14 = .ok (.sipush (-10002), 3) := by decide +kernel
theorem dX5_share_17 : decode cX5_share 17 = .ok (.ireturn, 1) := by decide +kernel
theorem dX5_share_18 : decode cX5_share 18 = .ok (.aload_n 0, 1) := by decide +kernel
theorem dX5_share_19 : decode cX5_share 19 = .ok (.iload_n 1, 1) := by decide +kernel
theorem dX5_share_20 : decode cX5_share 20 = .ok (.iconst 0, 1) := by decide +kernel
theorem dX5_share_21 : decode cX5_share 21 = .ok (.invokevirtual 151, 3) := by decide +kernel
theorem dX5_share_24 : decode cX5_share 24 = .ok (.istore_n 2, 1) := by decide +kernel
theorem dX5_share_25 : decode cX5_share 25 = .ok (.aload_n 0, 1) := by decide +kernel
theorem dX5_share_26 : decode cX5_share 26 = .ok (.iload_n 2, 1) := by decide +kernel
theorem dX5_share_27 : decode cX5_share 27 = .ok (.ifCond .ne 7, 3) := by decide +kernel
theorem dX5_share_30 : decode cX5_share 30 = .ok (.iconst 1, 1) := by decide +kernel
theorem dX5_share_31 : decode cX5_share 31 = .ok (.goto 4, 3) := by decide +kernel
theorem dX5_share_34 : decode cX5_share 34 = .ok (.iconst 0, 1) := by decide +kernel
theorem dX5_share_35 : decode cX5_share 35 = .ok (.putfield 70, 3) := by decide +kernel
theorem dX5_share_38 : decode cX5_share 38 = .ok (.aload_n 0, 1) := by decide +kernel
theorem dX5_share_39 : decode cX5_share 39 = .ok (.getfield 70, 3) := by decide +kernel
theorem dX5_share_42 : decode cX5_share 42 = .ok (.ifCond .le 7, 3) := by decide +kernel
theorem dX5_share_45 : decode cX5_share 45 = .ok (.iconst 0, 1) := by decide +kernel
theorem dX5_share_46 : decode cX5_share 46 = .ok (.goto 15, 3) := by decide +kernel
theorem dX5_share_49 : decode cX5_share 49 = .ok (.sipush 1000, 3) := by decide +kernel
theorem dX5_share_52 : decode cX5_share 52 = .ok (.aload_n 0, 1) := by decide +kernel
theorem dX5_share_53 : decode cX5_share 53 = .ok (.iload_n 1, 1) := by decide +kernel
theorem dX5_share_54 : decode cX5_share 54 = .ok (.iconst 1, 1) := by decide +kernel
theorem dX5_share_55 : decode cX5_share 55 = .ok (.invokevirtual 151, 3) := by decide +kernel
theorem dX5_share_58 : decode cX5_share 58 = .ok (.imul, 1) := by decide +kernel
theorem dX5_share_59 : decode cX5_share 59 = .ok (.iload_n 2, 1) := by decide +kernel
theorem dX5_share_60 : decode cX5_share 60 = .ok (.idiv, 1) := by decide +kernel
theorem dX5_share_61 : decode cX5_share 61 = .ok (.ireturn, 1) := by decide +kernel
set_option maxRecDepth 20000 in
theorem ggX5_about_X5_in : GoodIn wsX5_about wsX5_in := goodIn_r _ [9] (by decide +kernel) (by decide +kernel)
set_option maxRecDepth 20000 in
theorem gX5_about_X5_in : GoodIn wsX5_about (va_wsS RX5 73 yX5_in wsX5_in) := goodIn_app (goodIn_of _ (by decide +kernel)) ggX5_about_X5_in
theorem dX5_about_0 : decode cX5_about 0 = .ok (.aload_n 0, 1) := by decide +kernel
theorem dX5_about_1 : decode cX5_about 1 = .ok (.iconst 0, 1) := by decide +kernel
theorem dX5_about_2 : decode cX5_about 2 = .ok (.putfield 70, 3) := by decide +kernel
theorem dX5_about_5 : decode cX5_about 5 = .ok (.iload_n 1, 1) := by decide +kernel
theorem dX5_about_6 : decode cX5_about 6 = .ok (.ifCond .eq 8, 3) := by decide +kernel
theorem dX5_about_9 : decode cX5_about 9 = .ok (.iload_n 1, 1) := by decide +kernel
theorem dX5_about_10 : decode cX5_about 10 = .ok (.iconst 1, 1) := by decide +kernel
theorem dX5_about_11 : decode cX5_about 11 = .ok (.if_icmp .ne 19, 3) := by decide +kernel
theorem dX5_about_14 : decode cX5_about 14 = .ok (.iload_n 1, 1) := by decide +kernel
theorem dX5_about_15 : decode cX5_about 15 = .ok (.ifCond .ne 10, 3) := by decide +kernel
theorem dX5_about_18 : decode cX5_about 18 = .ok (.aload_n 0, 1) := by decide +kernel
theorem dX5_about_19 : decode cX5_about 19 = .ok (.getfield 63, 3) := by decide +kernel
theorem dX5_about_22 : decode cX5_about 22 = .ok (.goto 7, 3) := by decide +kernel
theorem dX5_about_25 : decode cX5_about 25 = .ok (.aload_n 0, 1) := by decide +kernel
theorem dX5_about_26 : decode cX5_about 26 = .ok (.getfield 67, 3) := by decide +kernel
theorem dX5_about_29 : decode cX5_about 29 = .ok (.ireturn, 1) := by decide +kernel
theorem dX5_about_30 : decode cX5_about 30 = .ok (.iload_n 1, 1) := by decide +kernel
theorem dX5_about_31 : decode cX5_about 31 = .ok (.iconst 2, 1) := by decide +kernel
theorem dX5_about_32 : decode cX5_about 32 = .ok (.if_icmp .eq 18, 3) := by decide +kernel
theorem dX5_about_35 : decode cX5_about 35 = .ok (.iload_n 1, 1) := by decide +kernel
theorem dX5_about_36 : decode cX5_about 36 = .ok (.bipush 10, 2) := by decide +kernel
theorem dX5_about_38 : decode cX5_about 38 = .ok (.bipush 13, 2) := by decide +kernel
theorem dX5_about_40 : decode cX5_about 40 = .ok (.invokestatic 73, 3) := by decide +kernel
theorem dX5_about_43 : decode cX5_about 43 = .ok (.ifCond .ne 7, 3) := by decide +kernel
theorem dX5_about_46 : decode cX5_about 46 = .ok (.sipush (-10002), 3) := by decide +kernel
theorem dX5_about_49 : decode cX5_about 49 = .ok (.ireturn, 1) := by decide +kernel
theorem dX5_about_50 : decode cX5_about 50 = .ok (.iconst 0, 1) := by decide +kernel
theorem dX5_about_51 : decode cX5_about 51 = .ok (.istore_n 2, 1) := by decide +kernel
theorem dX5_about_52 : decode cX5_about 52 = .ok (.iconst 0, 1) := by decide +kernel
theorem dX5_about_53 : decode cX5_about 53 = .ok (.istore_n 3, 1) := by decide +kernel
theorem dX5_about_54 : decode cX5_about 54 = .ok (.iload_n 3, 1) := by decide +kernel
theorem dX5_about_55 : decode cX5_about 55 = .ok (.bipush 15, 2) := by decide +kernel
theorem dX5_about_57 : decode cX5_about 57 = .ok (.aload_n 0, 1) := by decide +kernel
theorem dX5_about_58 : decode cX5_about 58 = .ok (.getfield 67, 3) := by decide +kernel
theorem dX5_about_61 : decode cX5_about 61 = .ok (.imul, 1) := by decide +kernel
theorem dX5_about_62 : decode cX5_about 62 = .ok (.if_icmp .ge 75, 3) := by decide +kernel
theorem dX5_about_65 : decode cX5_about 65 = .ok (.iload_n 1, 1) := by decide +kernel
theorem dX5_about_66 : decode cX5_about 66 = .ok (.iconst 2, 1) := by decide +kernel
theorem dX5_about_67 : decode cX5_about 67 = .ok (.if_icmp .ne 21, 3) := by decide +kernel
theorem dX5_about_70 : decode cX5_about 70 = .ok (.aload_n 0, 1) := by decide +kernel
theorem dX5_about_71 : decode cX5_about 71 = .ok (.getfield 26, 3) := by decide +kernel
theorem dX5_about_74 : decode cX5_about 74 = .ok (.iload_n 3, 1) := by decide +kernel
theorem dX5_about_75 : decode cX5_about 75 = .ok (.iaload, 1) := by decide +kernel
theorem dX5_about_76 : decode cX5_about 76 = .ok (.iconst 1, 1) := by decide +kernel
theorem dX5_about_77 : decode cX5_about 77 = .ok (.if_icmp .ne 7, 3) := by decide +kernel
theorem dX5_about_80 : decode cX5_about 80 = .ok (.iconst 1, 1) := by decide +kernel
theorem dX5_about_81 : decode cX5_about 81 = .ok (.goto 35, 3) := by decide +kernel
theorem dX5_about_84 : decode cX5_about 84 = .ok (.iconst 0, 1) := by decide +kernel
theorem dX5_about_85 : decode cX5_about 85 = .ok (.goto 31, 3) := by decide +kernel
theorem dX5_about_88 : decode cX5_about 88 = .ok (.aload_n 0, 1) := by decide +kernel
theorem dX5_about_89 : decode cX5_about 89 = .ok (.getfield 26, 3) := by decide +kernel
theorem dX5_about_92 : decode cX5_about 92 = .ok (.iload_n 3, 1) := by decide +kernel
theorem dX5_about_93 : decode cX5_about 93 = .ok (.iaload, 1) := by decide +kernel
theorem dX5_about_94 : decode cX5_about 94 = .ok (.iconst 2, 1) := by decide +kernel
theorem dX5_about_95 : decode cX5_about 95 = .ok (.if_icmp .ne 20, 3) := by decide +kernel
theorem dX5_about_98 : decode cX5_about 98 = .ok (.aload_n 0, 1) := by decide +kernel
theorem dX5_about_99 : decode cX5_about 99 = .ok (.getfield 29, 3) := by decide +kernel
theorem dX5_about_102 : decode cX5_about 102 = .ok (.iload_n 3, 1) := by decide +kernel
theorem dX5_about_103 : decode cX5_about 103 = .ok (.iaload, 1) := by decide +kernel
theorem dX5_about_104 : decode cX5_about 104 = .ok (.iload_n 1, 1) := by decide +kernel
theorem dX5_about_105 : decode cX5_about 105 = .ok (.bipush 10, 2) := by decide +kernel
theorem dX5_about_107 : decode cX5_about 107 = .ok (.isub, 1) := by decide +kernel
theorem dX5_about_108 : decode cX5_about 108 = .ok (.if_icmp .ne 7, 3) := by decide +kernel
theorem dX5_about_111 : decode cX5_about 111 = .ok (.iconst 1, 1) := by decide +kernel
theorem dX5_about_112 : decode cX5_about 112 = .ok (.goto 4, 3) := by decide +kernel
theorem dX5_about_115 : decode cX5_about 115 = .ok (.iconst 0, 1) := by decide +kernel
theorem dX5_about_116 : decode cX5_about 116 = .ok (.istore 4, 2) := by decide +kernel
theorem dX5_about_118 : decode cX5_about 118 = .ok (.iload_n 2, 1) := by decide +kernel
theorem dX5_about_119 : decode cX5_about 119 = .ok (.iload 4, 2) := by decide +kernel
theorem dX5_about_121 : decode cX5_about 121 = .ok (.ifCond .eq 7, 3) := by decide +kernel
theorem dX5_about_124 : decode cX5_about 124 = .ok (.iconst 1, 1) := by decide +kernel
theorem dX5_about_125 : decode cX5_about 125 = .ok (.goto 4, 3) := by decide +kernel
theorem dX5_about_128 : decode cX5_about 128 = .ok (.iconst 0, 1) := by decide +kernel
theorem dX5_about_129 : decode cX5_about 129 = .ok (.iadd, 1) := by decide +kernel
theorem dX5_about_130 : decode cX5_about 130 = .ok (.istore_n 2, 1) := by decide +kernel
theorem dX5_about_131 : decode cX5_about 131 = .ok (.iinc 3 1, 3) := by decide +kernel
theorem dX5_about_134 : decode cX5_about 134 = .ok (.goto (-80), 3) := by decide +kernel
theorem dX5_about_137 : decode cX5_about 137 = .ok (.iload_n 2, 1) := by decide +kernel
theorem dX5_about_138 : decode cX5_about 138 = .ok (.ireturn, 1) := by decide +kernel
set_option maxRecDepth 20000 in
theorem ggX5_clear_X5_begins : GoodIn wsX5_clear wsX5_begins := goodIn_ca (goodIn_ca (goodIn_r _ [7, 2, 8, 9, 10, 11, 12, 13, 14, 15, 16, 17, 18, 19, 20, 21, 22, 23, 24, 25, 26, 27, 28, 29, 30, 31, 32, 33, 34] (by decide +kernel) (by decide +kernel)) (goodIn_sub (fun _ h => List.mem_cons_of_mem _ (List.mem_append_right _ h)) (by decide +kernel))) (goodIn_sub (fun _ h => List.mem_cons_of_mem _ (List.mem_append_left _ (List.mem_append_right _ h))) (by decide +kernel))
set_option maxRecDepth 20000 in
theorem gX5_clear_X5_begins : GoodIn wsX5_clear (wsV RX5 60 RX5 yX5_begins wsX5_begins) := goodIn_app (goodIn_of _ (by decide +kernel)) ggX5_clear_X5_begins
theorem dX5_clear_0 : decode cX5_clear 0 = .ok (.aload_n 0, 1) := by decide +kernel
theorem dX5_clear_1 : decode cX5_clear 1 = .ok (.iconst 0, 1) := by decide +kernel
theorem dX5_clear_2 : decode cX5_clear 2 = .ok (.putfield 70, 3) := by decide +kernel
theorem dX5_clear_5 : decode cX5_clear 5 = .ok (.aload_n 0, 1) := by decide +kernel
theorem dX5_clear_6 : decode cX5_clear 6 = .ok (.getfield 63, 3) := by decide +kernel
theorem dX5_clear_9 : decode cX5_clear 9 = .ok (.istore_n 1, 1) := by decide +kernel
theorem dX5_clear_10 : decode cX5_clear 10 = .ok (.aload_n 0, 1) := by decide +kernel
theorem dX5_clear_11 : decode cX5_clear 11 = .ok (.invokevirtual 60, 3) := by decide +kernel
theorem dX5_clear_14 : decode cX5_clear 14 = .ok (.iload_n 1, 1) := by decide +kernel
theorem dX5_clear_15 : decode cX5_clear 15 = .ok (.ireturn, 1) := by decide +kernel
