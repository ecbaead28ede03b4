theorem dX0_init_0 : decode cX0_init 0 = .ok (.aload_n 0, 1) := by decide +kernel
theorem dX0_init_1 : decode cX0_init 1 = .ok (.invokespecial 1, 3) := by decide +kernel
theorem dX0_init_4 : decode cX0_init 4 = .ok (.return_, 1) := by decide +kernel
set_option maxRecDepth 20000 in
theorem ggX0_offer_X0_isBetter : GoodIn wsX0_offer wsX0_isBetter := goodIn_r _ [11, 6, 5, 2, 3, 4, 12, 13, 14, 15, 16, 17] (by decide +kernel) (by decide +kernel)
set_option maxRecDepth 20000 in
theorem gX0_offer_X0_isBetter : GoodIn wsX0_offer (wsV RX0 13 RX0 yX0_isBetter wsX0_isBetter) := goodIn_app (goodIn_of _ (by decide +kernel)) ggX0_offer_X0_isBetter
theorem dX0_offer_0 : decode cX0_offer 0 = .ok (.aload_n 0, 1) := by decide +kernel
theorem dX0_offer_1 : decode cX0_offer 1 = .ok (.getfield 7, 3) := by decide +kernel
theorem dX0_offer_4 : decode cX0_offer 4 = .ok (.ifCond .eq 18, 3) := by decide +kernel
theorem dX0_offer_7 : decode cX0_offer 7 = .ok (.aload_n 0, 1) := by decide +kernel
theorem dX0_offer_8 : decode cX0_offer 8 = .ok (.iload_n 1, 1) := by decide +kernel
theorem dX0_offer_9 : decode cX0_offer 9 = .ok (.iload_n 2, 1) := by decide +kernel
theorem dX0_offer_10 : decode cX0_offer 10 = .ok (.iload_n 3, 1) := by decide +kernel
theorem dX0_offer_11 : decode cX0_offer 11 = .ok (.lload 4, 2) := by decide +kernel
theorem dX0_offer_13 : decode cX0_offer 13 = .ok (.lload 6, 2) := by decide +kernel
theorem dX0_offer_15 : decode cX0_offer 15 = .ok (.invokevirtual 13, 3) := by decide +kernel
theorem dX0_offer_18 : decode cX0_offer 18 = .ok (.ifCond .ne 4, 3) := by decide +kernel
theorem dX0_offer_21 : decode cX0_offer 21 = .ok (.return_, 1) := by decide +kernel
theorem dX0_offer_22 : decode cX0_offer 22 = .ok (.aload_n 0, 1) := by decide +kernel
theorem dX0_offer_23 : decode cX0_offer 23 = .ok (.iconst 1, 1) := by decide +kernel
theorem dX0_offer_24 : decode cX0_offer 24 = .ok (.putfield 7, 3) := by decide +kernel
theorem dX0_offer_27 : decode cX0_offer 27 = .ok (.aload_n 0, 1) := by decide +kernel
theorem dX0_offer_28 : decode cX0_offer 28 = .ok (.iload_n 1, 1) := by decide +kernel
theorem dX0_offer_29 : decode cX0_offer 29 = .ok (.putfield 17, 3) := by decide +kernel
theorem dX0_offer_32 : decode cX0_offer 32 = .ok (.aload_n 0, 1) := by decide +kernel
theorem dX0_offer_33 : decode cX0_offer 33 = .ok (.iload_n 2, 1) := by decide +kernel
theorem dX0_offer_34 : decode cX0_offer 34 = .ok (.putfield 21, 3) := by decide +kernel
theorem dX0_offer_37 : decode cX0_offer 37 = .ok (.aload_n 0, 1) := by decide +kernel
theorem dX0_offer_38 : decode cX0_offer 38 = .ok (.iload_n 3, 1) := by decide +kernel
theorem dX0_offer_39 : decode cX0_offer 39 = .ok (.putfield 24, 3) := by decide +kernel
theorem dX0_offer_42 : decode cX0_offer 42 = .ok (.aload_n 0, 1) := by decide +kernel
theorem dX0_offer_43 : decode cX0_offer 43 = .ok (.lload 4, 2) := by decide +kernel
theorem dX0_offer_45 : decode cX0_offer 45 = .ok (.putfield 27, 3) := by decide +kernel
theorem dX0_offer_48 : decode cX0_offer 48 = .ok (.aload_n 0, 1) := by decide +kernel
theorem dX0_offer_49 : decode cX0_offer 49 = .ok (.lload 6, 2) := by decide +kernel
theorem dX0_offer_51 : decode cX0_offer 51 = .ok (.putfield 31, 3) := by decide +kernel
theorem dX0_offer_54 : decode cX0_offer 54 = .ok (.return_, 1) := by decide +kernel
theorem dX0_isBetter_0 : decode cX0_isBetter 0 = .ok (.lload 4, 2) := by decide +kernel
theorem dX0_isBetter_2 : decode cX0_isBetter 2 = .ok (.aload_n 0, 1) := by decide +kernel
theorem dX0_isBetter_3 : decode cX0_isBetter 3 = .ok (.getfield 31, 3) := by decide +kernel
theorem dX0_isBetter_6 : decode cX0_isBetter 6 = .ok (.lmul, 1) := by decide +kernel
theorem dX0_isBetter_7 : decode cX0_isBetter 7 = .ok (.lstore 8, 2) := by decide +kernel
theorem dX0_isBetter_9 : decode cX0_isBetter 9 = .ok (.aload_n 0, 1) := by decide +kernel
theorem dX0_isBetter_10 : decode cX0_isBetter 10 = .ok (.getfield 27, 3) := by decide +kernel
theorem dX0_isBetter_13 : decode cX0_isBetter 13 = .ok (.lload 6, 2) := by decide +kernel
theorem dX0_isBetter_15 : decode cX0_isBetter 15 = .ok (.lmul, 1) := by decide +kernel
theorem dX0_isBetter_16 : decode cX0_isBetter 16 = .ok (.lstore 10, 2) := by decide +kernel
theorem dX0_isBetter_18 : decode cX0_isBetter 18 = .ok (.lload 8, 2) := by decide +kernel
theorem dX0_isBetter_20 : decode cX0_isBetter 20 = .ok (.lload 10, 2) := by decide +kernel
theorem dX0_isBetter_22 : decode cX0_isBetter 22 = .ok (.lcmp, 1) := by decide +kernel
theorem dX0_isBetter_23 : decode cX0_isBetter 23 = .ok (.ifCond .eq 17, 3) := by decide +kernel
theorem dX0_isBetter_26 : decode cX0_isBetter 26 = .ok (.lload 8, 2) := by decide +kernel
theorem dX0_isBetter_28 : decode cX0_isBetter 28 = .ok (.lload 10, 2) := by decide +kernel
theorem dX0_isBetter_30 : decode cX0_isBetter 30 = .ok (.lcmp, 1) := by decide +kernel
theorem dX0_isBetter_31 : decode cX0_isBetter 31 = .ok (.ifCond .le 7, 3) := by decide +kernel
theorem dX0_isBetter_34 : decode cX0_isBetter 34 = .ok (.iconst 1, 1) := by decide +kernel
theorem dX0_isBetter_35 : decode cX0_isBetter 35 = .ok (.goto 4, 3) := by decide +kernel
theorem dX0_isBetter_38 : decode cX0_isBetter 38 = .ok (.iconst 0, 1) := by decide +kernel
theorem dX0_isBetter_39 : decode cX0_isBetter 39 = .ok (.ireturn, 1) := by decide +kernel
theorem dX0_isBetter_40 : decode cX0_isBetter 40 = .ok (.iload_n 1, 1) := by decide +kernel
theorem dX0_isBetter_41 : decode cX0_isBetter 41 = .ok (.aload_n 0, 1) := by decide +kernel
theorem dX0_isBetter_42 : decode cX0_isBetter 42 = .ok (.getfield 17, 3) := by decide +kernel
theorem dX0_isBetter_45 : decode cX0_isBetter 45 = .ok (.if_icmp .eq 17, 3) := by decide +kernel
theorem dX0_isBetter_48 : decode cX0_isBetter 48 = .ok (.iload_n 1, 1) := by decide +kernel
theorem dX0_isBetter_49 : decode cX0_isBetter 49 = .ok (.aload_n 0, 1) := by decide +kernel
theorem dX0_isBetter_50 : decode cX0_isBetter 50 = .ok (.getfield 17, 3) := by decide +kernel
theorem dX0_isBetter_53 : decode cX0_isBetter 53 = .ok (.if_icmp .ge 7, 3) := by decide +kernel
theorem dX0_isBetter_56 : decode cX0_isBetter 56 = .ok (.iconst 1, 1) := by decide +kernel
theorem dX0_isBetter_57 : decode cX0_isBetter 57 = .ok (.goto 4, 3) := by decide +kernel
theorem dX0_isBetter_60 : decode cX0_isBetter 60 = .ok (.iconst 0, 1) := by decide +kernel
theorem dX0_isBetter_61 : decode cX0_isBetter 61 = .ok (.ireturn, 1) := by decide +kernel
theorem dX0_isBetter_62 : decode cX0_isBetter 62 = .ok (.iload_n 2, 1) := by decide +kernel
theorem dX0_isBetter_63 : decode cX0_isBetter 63 = .ok (.aload_n 0, 1) := by decide +kernel
theorem dX0_isBetter_64 : decode cX0_isBetter 64 = .ok (.getfield 21, 3) := by decide +kernel
theorem dX0_isBetter_67 : decode cX0_isBetter 67 = .ok (.if_icmp .eq 19, 3) := by decide +kernel
theorem dX0_isBetter_70 : decode cX0_isBetter 70 = .ok (.iload_n 2, 1) := by decide +kernel
theorem dX0_isBetter_71 : decode cX0_isBetter 71 = .ok (.aload_n 0, 1) := by decide +kernel
theorem dX0_isBetter_72 : decode cX0_isBetter 72 = .ok (.getfield 21, 3) := by decide +kernel
theorem dX0_isBetter_75 : decode cX0_isBetter 75 = .ok (.if_icmp .ge 7, 3) := by decide +kernel
theorem dX0_isBetter_78 : decode cX0_isBetter 78 = .ok (.iconst 1, 1) := by decide +kernel
theorem dX0_isBetter_79 : decode cX0_isBetter 79 = .ok (.goto 20, 3) := by decide +kernel
theorem dX0_isBetter_82 : decode cX0_isBetter 82 = .ok (.iconst 0, 1) := by decide +kernel
theorem dX0_isBetter_83 : decode cX0_isBetter 83 = .ok (.goto 16, 3) := by decide +kernel
theorem dX0_isBetter_86 : decode cX0_isBetter 86 = .ok (.iload_n 3, 1) := by decide +kernel
theorem dX0_isBetter_87 : decode cX0_isBetter 87 = .ok (.aload_n 0, 1) := by decide +kernel
theorem dX0_isBetter_88 : decode cX0_isBetter 88 = .ok (.getfield 24, 3) := by decide +kernel
theorem dX0_isBetter_91 : decode cX0_isBetter 91 = .ok (.if_icmp .ge 7, 3) := by decide +kernel
theorem dX0_isBetter_94 : decode cX0_isBetter 94 = .ok (.iconst 1, 1) := by decide +kernel
theorem dX0_isBetter_95 : decode cX0_isBetter 95 = .ok (.goto 4, 3) := by decide +kernel
theorem dX0_isBetter_98 : decode cX0_isBetter 98 = .ok (.iconst 0, 1) := by decide +kernel
theorem dX0_isBetter_99 : decode cX0_isBetter 99 = .ok (.ireturn, 1) := by decide +kernel
theorem dX1_init_0 : decode cX1_init 0 = .ok (.aload_n 0, 1) := by decide +kernel
theorem dX1_init_1 : decode cX1_init 1 = .ok (.invokespecial 3, 3) := by decide +kernel
theorem dX1_init_4 : decode cX1_init 4 = .ok (.aload_n 0, 1) := by decide +kernel
theorem dX1_init_5 : decode cX1_init 5 = .ok (.sipush 300, 3) := by decide +kernel
theorem dX1_init_8 : decode cX1_init 8 = .ok (.newarray .int, 2) := by decide +kernel
theorem dX1_init_10 : decode cX1_init 10 = .ok (.putfield 9, 3) := by decide +kernel
theorem dX1_init_13 : decode cX1_init 13 = .ok (.aload_n 0, 1) := by decide +kernel
theorem dX1_init_14 : decode cX1_init 14 = .ok (.sipush 300, 3) := by decide +kernel
theorem dX1_init_17 : decode cX1_init 17 = .ok (.newarray .int, 2) := by decide +kernel
theorem dX1_init_19 : decode cX1_init 19 = .ok (.putfield 15, 3) := by decide +kernel
theorem dX1_init_22 : decode cX1_init 22 = .ok (.aload_n 0, 1) := by decide +kernel
theorem dX1_init_23 : decode cX1_init 23 = .ok (.sipush 300, 3) := by decide +kernel
theorem dX1_init_26 : decode cX1_init 26 = .ok (.newarray .int, 2) := by decide +kernel
theorem dX1_init_28 : decode cX1_init 28 = .ok (.putfield 18, 3) := by decide +kernel
theorem dX1_init_31 : decode cX1_init 31 = .ok (.aload_n 0, 1) := by decide +kernel
theorem dX1_init_32 : decode cX1_init 32 = .ok (.sipush 300, 3) := by decide +kernel
theorem dX1_init_35 : decode cX1_init 35 = .ok (.newarray .int, 2) := by decide +kernel
theorem dX1_init_37 : decode cX1_init 37 = .ok (.putfield 21, 3) := by decide +kernel
theorem dX1_init_40 : decode cX1_init 40 = .ok (.aload_n 0, 1) := by decide +kernel
theorem dX1_init_41 : decode cX1_init 41 = .ok (.sipush 300, 3) := by decide +kernel
theorem dX1_init_44 : decode cX1_init 44 = .ok (.newarray .int, 2) := by decide +kernel
theorem dX1_init_46 : decode cX1_init 46 = .ok (.putfield 24, 3) := by decide +kernel
theorem dX1_init_49 : decode cX1_init 49 = .ok (.aload_n 0, 1) := by decide +kernel
theorem dX1_init_50 : decode cX1_init 50 = .ok (.sipush 300, 3) := by decide +kernel
theorem dX1_init_53 : decode cX1_init 53 = .ok (.newarray .int, 2) := by decide +kernel
theorem dX1_init_55 : decode cX1_init 55 = .ok (.putfield 27, 3) := by decide +kernel
theorem dX1_init_58 : decode cX1_init 58 = .ok (.aload_n 0, 1) := by decide +kernel
theorem dX1_init_59 : decode cX1_init 59 = .ok (.sipush 300, 3) := by decide +kernel
theorem dX1_init_62 : decode cX1_init 62 = .ok (.newarray .long, 2) := by decide +kernel
theorem dX1_init_64 : decode cX1_init 64 = .ok (.putfield 30, 3) := by decide +kernel
theorem dX1_init_67 : decode cX1_init 67 = .ok (.aload_n 0, 1) := by decide +kernel
theorem dX1_init_68 : decode cX1_init 68 = .ok (.sipush 300, 3) := by decide +kernel
theorem dX1_init_71 : decode cX1_init 71 = .ok (.newarray .long, 2) := by decide +kernel
theorem dX1_init_73 : decode cX1_init 73 = .ok (.putfield 34, 3) := by decide +kernel
theorem dX1_init_76 : decode cX1_init 76 = .ok (.return_, 1) := by decide +kernel
theorem dX1_has_0 : decode cX1_has 0 = .ok (.iload_n 1, 1) := by decide +kernel
theorem dX1_has_1 : decode cX1_has 1 = .ok (.ifCond .lt 15, 3) := by decide +kernel
theorem dX1_has_4 : decode cX1_has 4 = .ok (.iload_n 1, 1) := by decide +kernel
theorem dX1_has_5 : decode cX1_has 5 = .ok (.aload_n 0, 1) := by decide +kernel
theorem dX1_has_6 : decode cX1_has 6 = .ok (.getfield 37, 3) := by decide +kernel
theorem dX1_has_9 : decode cX1_has 9 = .ok (.if_icmp .ge 7, 3) := by decide +kernel
theorem dX1_has_12 : decode cX1_has 12 = .ok (.iconst 1, 1) := by decide +kernel
theorem dX1_has_13 : decode cX1_has 13 = .ok (.goto 4, 3) := by decide +kernel
theorem dX1_has_16 : decode cX1_has 16 = .ok (.iconst 0, 1) := by decide +kernel
theorem dX1_has_17 : decode cX1_has 17 = .ok (.ireturn, 1) := by decide +kernel
set_option maxRecDepth 20000 in
theorem ggX1_find_X1_has : GoodIn wsX1_find wsX1_has := goodIn_r _ [6, 7, 8, 9, 10, 11, 12, 13, 14, 15, 16] (by decide +kernel) (by decide +kernel)
set_option maxRecDepth 20000 in
theorem gX1_find_X1_has : GoodIn wsX1_find (wsV RX1 41 RX1 yX1_has wsX1_has) := goodIn_app (goodIn_of _ (by decide +kernel)) ggX1_find_X1_has
theorem dX1_find_0 : decode cX1_find 0 = .ok (.aload_n 0, 1) := by decide +kernel
theorem dX1_find_1 : decode cX1_find 1 = .ok (.iload_n 1, 1) := by decide +kernel
theorem dX1_find_2 : decode cX1_find 2 = .ok (.invokevirtual 41, 3) := by decide +kernel
theorem dX1_find_5 : decode cX1_find 5 = .ok (.ifCond .eq 13, 3) := by decide +kernel
theorem dX1_find_8 : decode cX1_find 8 = .ok (.iload_n 2, 1) := by decide +kernel
theorem dX1_find_9 : decode cX1_find 9 = .ok (.ifCond .lt 9, 3) := by decide +kernel
theorem dX1_find_12 : decode cX1_find 12 = .ok (.iload_n 2, 1) := by decide +kernel
theorem dX1_find_13 : decode cX1_find 13 = .ok (.bipush 15, 2) := by decide +kernel
theorem dX1_find_15 : decode cX1_find 15 = .ok (.if_icmp .lt 5, 3) := by decide +kernel
theorem dX1_find_18 : decode cX1_find 18 = .ok (.iconst (-1), 1) := by decide +kernel
theorem dX1_find_19 : decode cX1_find 19 = .ok (.ireturn, 1) := by decide +kernel
theorem dX1_find_20 : decode cX1_find 20 = .ok (.iload_n 1, 1) := by decide +kernel
theorem dX1_find_21 : decode cX1_find 21 = .ok (.bipush 15, 2) := by decide +kernel
theorem dX1_find_23 : decode cX1_find 23 = .ok (.imul, 1) := by decide +kernel
theorem dX1_find_24 : decode cX1_find 24 = .ok (.iload_n 2, 1) := by decide +kernel
theorem dX1_find_25 : decode cX1_find 25 = .ok (.iadd, 1) := by decide +kernel
theorem dX1_find_26 : decode cX1_find 26 = .ok (.istore_n 3, 1) := by decide +kernel
theorem dX1_find_27 : decode cX1_find 27 = .ok (.aload_n 0, 1) := by decide +kernel
theorem dX1_find_28 : decode cX1_find 28 = .ok (.getfield 9, 3) := by decide +kernel
theorem dX1_find_31 : decode cX1_find 31 = .ok (.iload_n 3, 1) := by decide +kernel
theorem dX1_find_32 : decode cX1_find 32 = .ok (.iaload, 1) := by decide +kernel
theorem dX1_find_33 : decode cX1_find 33 = .ok (.ifCond .ne 7, 3) := by decide +kernel
theorem dX1_find_36 : decode cX1_find 36 = .ok (.iconst (-1), 1) := by decide +kernel
theorem dX1_find_37 : decode cX1_find 37 = .ok (.goto 4, 3) := by decide +kernel
theorem dX1_find_40 : decode cX1_find 40 = .ok (.iload_n 3, 1) := by decide +kernel
theorem dX1_find_41 : decode cX1_find 41 = .ok (.ireturn, 1) := by decide +kernel
set_option maxRecDepth 20000 in
theorem ggX1_addTree_J7_fill_fda19 : GoodIn wsX1_addTree wsJ7_fill_fda19 := goodIn_r _ [6, 7, 8, 5, 9, 10, 11, 12, 22, 23, 24, 25, 26, 27] (by decide +kernel) (by decide +kernel)
set_option maxRecDepth 20000 in
theorem gX1_addTree_J7_fill_fda19 : GoodIn wsX1_addTree (va_wsS RX1 45 yJ7_fill_fda19 wsJ7_fill_fda19) := goodIn_app (goodIn_of _ (by decide +kernel)) ggX1_addTree_J7_fill_fda19
theorem dX1_addTree_0 : decode cX1_addTree 0 = .ok (.aload_n 0, 1) := by decide +kernel
theorem dX1_addTree_1 : decode cX1_addTree 1 = .ok (.getfield 37, 3) := by decide +kernel
theorem dX1_addTree_4 : decode cX1_addTree 4 = .ok (.istore_n 1, 1) := by decide +kernel
theorem dX1_addTree_5 : decode cX1_addTree 5 = .ok (.aload_n 0, 1) := by decide +kernel
theorem dX1_addTree_6 : decode cX1_addTree 6 = .ok (.getfield 9, 3) := by decide +kernel
theorem dX1_addTree_9 : decode cX1_addTree 9 = .ok (.iload_n 1, 1) := by decide +kernel
theorem dX1_addTree_10 : decode cX1_addTree 10 = .ok (.bipush 15, 2) := by decide +kernel
theorem dX1_addTree_12 : decode cX1_addTree 12 = .ok (.imul, 1) := by decide +kernel
theorem dX1_addTree_13 : decode cX1_addTree 13 = .ok (.iload_n 1, 1) := by decide +kernel
theorem dX1_addTree_14 : decode cX1_addTree 14 = .ok (.iconst 1, 1) := by decide +kernel
theorem dX1_addTree_15 : decode cX1_addTree 15 = .ok (.iadd, 1) := by decide +kernel
theorem dX1_addTree_16 : decode cX1_addTree 16 = .ok (.bipush 15, 2) := by decide +kernel
theorem dX1_addTree_18 : decode cX1_addTree 18 = .ok (.imul, 1) := by decide +kernel
theorem dX1_addTree_19 : decode cX1_addTree 19 = .ok (.iconst 0, 1) := by decide +kernel
theorem dX1_addTree_20 : decode cX1_addTree 20 = .ok (.invokestatic 45, 3) := by decide +kernel
theorem dX1_addTree_23 : decode cX1_addTree 23 = .ok (.aload_n 0, 1) := by decide +kernel
theorem dX1_addTree_24 : decode cX1_addTree 24 = .ok (.dup, 1) := by decide +kernel
theorem dX1_addTree_25 : decode cX1_addTree 25 = .ok (.getfield 37, 3) := by decide +kernel
theorem dX1_addTree_28 : decode cX1_addTree 28 = .ok (.iconst 1, 1) := by decide +kernel
theorem dX1_addTree_29 : decode cX1_addTree 29 = .ok (.iadd, 1) := by decide +kernel
theorem dX1_addTree_30 : decode cX1_addTree 30 = .ok (.putfield 37, 3) := by decide +kernel
theorem dX1_addTree_33 : decode cX1_addTree 33 = .ok (.iload_n 1, 1) := by decide +kernel
theorem dX1_addTree_34 : decode cX1_addTree 34 = .ok (.ireturn, 1) := by decide +kernel
set_option maxRecDepth 20000 in
theorem ggX1_setCut_X1_commonDivisor : GoodIn wsX1_setCut wsX1_commonDivisor := goodIn_ca (goodIn_r _ [16] (by decide +kernel) (by decide +kernel)) (goodIn_sub (fun _ h => List.mem_cons_of_mem _ (List.mem_append_right _ h)) (by decide +kernel))
set_option maxRecDepth 20000 in
theorem gX1_setCut_X1_commonDivisor : GoodIn wsX1_setCut (va_wsS RX1 69 yX1_commonDivisor wsX1_commonDivisor) := goodIn_app (goodIn_of _ (by decide +kernel)) ggX1_setCut_X1_commonDivisor
theorem dX1_setCut_0 : decode cX1_setCut 0 = .ok (.aload_n 0, 1) := by decide +kernel
theorem dX1_setCut_1 : decode cX1_setCut 1 = .ok (.getfield 9, 3) := by decide +kernel
theorem dX1_setCut_4 : decode cX1_setCut 4 = .ok (.iload_n 1, 1) := by decide +kernel
theorem dX1_setCut_5 : decode cX1_setCut 5 = .ok (.iconst 2, 1) := by decide +kernel
theorem dX1_setCut_6 : decode cX1_setCut 6 = .ok (.iastore, 1) := by decide +kernel
theorem dX1_setCut_7 : decode cX1_setCut 7 = .ok (.aload_n 0, 1) := by decide +kernel
theorem dX1_setCut_8 : decode cX1_setCut 8 = .ok (.getfield 27, 3) := by decide +kernel
theorem dX1_setCut_11 : decode cX1_setCut 11 = .ok (.iload_n 1, 1) := by decide +kernel
theorem dX1_setCut_12 : decode cX1_setCut 12 = .ok (.iload_n 2, 1) := by decide +kernel
theorem dX1_setCut_13 : decode cX1_setCut 13 = .ok (.iastore, 1) := by decide +kernel
theorem dX1_setCut_14 : decode cX1_setCut 14 = .ok (.aload_n 0, 1) := by decide +kernel
theorem dX1_setCut_15 : decode cX1_setCut 15 = .ok (.getfield 15, 3) := by decide +kernel
theorem dX1_setCut_18 : decode cX1_setCut 18 = .ok (.iload_n 1, 1) := by decide +kernel
theorem dX1_setCut_19 : decode cX1_setCut 19 = .ok (.aload_n 3, 1) := by decide +kernel
theorem dX1_setCut_20 : decode cX1_setCut 20 = .ok (.getfield 51, 3) := by decide +kernel
theorem dX1_setCut_23 : decode cX1_setCut 23 = .ok (.iastore, 1) := by decide +kernel
theorem dX1_setCut_24 : decode cX1_setCut 24 = .ok (.aload_n 0, 1) := by decide +kernel
theorem dX1_setCut_25 : decode cX1_setCut 25 = .ok (.getfield 18, 3) := by decide +kernel
theorem dX1_setCut_28 : decode cX1_setCut 28 = .ok (.iload_n 1, 1) := by decide +kernel
theorem dX1_setCut_29 : decode cX1_setCut 29 = .ok (.aload_n 3, 1) := by decide +kernel
theorem dX1_setCut_30 : decode cX1_setCut 30 = .ok (.getfield 56, 3) := by decide +kernel
theorem dX1_setCut_33 : decode cX1_setCut 33 = .ok (.iastore, 1) := by decide +kernel
theorem dX1_setCut_34 : decode cX1_setCut 34 = .ok (.aload_n 0, 1) := by decide +kernel
theorem dX1_setCut_35 : decode cX1_setCut 35 = .ok (.getfield 21, 3) := by decide +kernel
theorem dX1_setCut_38 : decode cX1_setCut 38 = .ok (.iload_n 1, 1) := by decide +kernel
theorem dX1_setCut_39 : decode cX1_setCut 39 = .ok (.aload_n 3, 1) := by decide +kernel
theorem dX1_setCut_40 : decode cX1_setCut 40 = .ok (.getfield 59, 3) := by decide +kernel
theorem dX1_setCut_43 : decode cX1_setCut 43 = .ok (.iastore, 1) := by decide +kernel
theorem dX1_setCut_44 : decode cX1_setCut 44 = .ok (.aload_n 3, 1) := by decide +kernel
theorem dX1_setCut_45 : decode cX1_setCut 45 = .ok (.getfield 62, 3) := by decide +kernel
theorem dX1_setCut_48 : decode cX1_setCut 48 = .ok (.aload_n 3, 1) := by decide +kernel
theorem dX1_setCut_49 : decode cX1_setCut 49 = .ok (.getfield 66, 3) := by decide +kernel
theorem dX1_setCut_52 : decode cX1_setCut 52 = .ok (.invokestatic 69, 3) := by decide +kernel
theorem dX1_setCut_55 : decode cX1_setCut 55 = .ok (.lstore 4, 2) := by decide +kernel
theorem dX1_setCut_57 : decode cX1_setCut 57 = .ok (.aload_n 0, 1) := by decide +kernel
theorem dX1_setCut_58 : decode cX1_setCut 58 = .ok (.getfield 30, 3) := by decide +kernel
theorem dX1_setCut_61 : decode cX1_setCut 61 = .ok (.iload_n 1, 1) := by decide +kernel
theorem dX1_setCut_62 : decode cX1_setCut 62 = .ok (.lload 4, 2) := by decide +kernel
theorem dX1_setCut_64 : decode cX1_setCut 64 = .ok (.lconst 1, 1) := by decide +kernel
theorem dX1_setCut_65 : decode cX1_setCut 65 = .ok (.lcmp, 1) := by decide +kernel
theorem dX1_setCut_66 : decode cX1_setCut 66 = .ok (.ifCond .le 13, 3) := by decide +kernel
theorem dX1_setCut_69 : decode cX1_setCut 69 = .ok (.aload_n 3, 1) := by decide +kernel
theorem dX1_setCut_70 : decode cX1_setCut 70 = .ok (.getfield 62, 3) := by decide +kernel
theorem dX1_setCut_73 : decode cX1_setCut 73 = .ok (.lload 4, 2) := by decide +kernel
theorem dX1_setCut_75 : decode cX1_setCut 75 = .ok (.ldiv, 1) := by decide +kernel
theorem dX1_setCut_76 : decode cX1_setCut 76 = .ok (.goto 7, 3) := by decide +kernel
theorem dX1_setCut_79 : decode cX1_setCut 79 = .ok (.aload_n 3, 1) := by decide +kernel
theorem dX1_setCut_80 : decode cX1_setCut 80 = .ok (.getfield 62, 3) := by decide +kernel
theorem dX1_setCut_83 : decode cX1_setCut 83 = .ok (.lastore, 1) := by decide +kernel
theorem dX1_setCut_84 : decode cX1_setCut 84 = .ok (.aload_n 0, 1) := by decide +kernel
theorem dX1_setCut_85 : decode cX1_setCut 85 = .ok (.getfield 34, 3) := by decide +kernel
theorem dX1_setCut_88 : decode cX1_setCut 88 = .ok (.iload_n 1, 1) := by decide +kernel
theorem dX1_setCut_89 : decode cX1_setCut 89 = .ok (.lload 4, 2) := by decide +kernel
theorem dX1_setCut_91 : decode cX1_setCut 91 = .ok (.lconst 1, 1) := by decide +kernel
theorem dX1_setCut_92 : decode cX1_setCut 92 = .ok (.lcmp, 1) := by decide +kernel
theorem dX1_setCut_93 : decode cX1_setCut 93 = .ok (.ifCond .le 13, 3) := by decide +kernel
theorem dX1_setCut_96 : decode cX1_setCut 96 = .ok (.aload_n 3, 1) := by decide +kernel
theorem dX1_setCut_97 : decode cX1_setCut 97 = .ok (.getfield 66, 3) := by decide +kernel
theorem dX1_setCut_100 : decode cX1_setCut 100 = .ok (.lload 4, 2) := by decide +kernel
theorem dX1_setCut_102 : decode cX1_setCut 102 = .ok (.ldiv, 1) := by decide +kernel
theorem dX1_setCut_103 : decode cX1_setCut 103 = .ok (.goto 7, 3) := by decide +kernel
theorem dX1_setCut_106 : decode cX1_setCut 106 = .ok (.aload_n 3, 1) := by decide +kernel
theorem dX1_setCut_107 : decode cX1_setCut 107 = .ok (.getfield 66, 3) := by decide +kernel
theorem dX1_setCut_110 : decode cX1_setCut 110 = .ok (.lastore, 1) := by decide +kernel
theorem dX1_setCut_111 : decode cX1_setCut 111 = .ok (.return_, 1) := by decide +kernel
theorem dX1_setLeaf_0 : decode cX1_setLeaf 0 = .ok (.aload_n 0, 1) := by decide +kernel
theorem dX1_setLeaf_1 : decode cX1_setLeaf 1 = .ok (.getfield 9, 3) := by decide +kernel
theorem dX1_setLeaf_4 : decode cX1_setLeaf 4 = .ok (.iload_n 1, 1) := by decide +kernel
theorem dX1_setLeaf_5 : decode cX1_setLeaf 5 = .ok (.iconst 1, 1) := by decide +kernel
theorem dX1_setLeaf_6 : decode cX1_setLeaf 6 = .ok (.iastore, 1) := by decide +kernel
theorem dX1_setLeaf_7 : decode cX1_setLeaf 7 = .ok (.aload_n 0, 1) := by decide +kernel
theorem dX1_setLeaf_8 : decode cX1_setLeaf 8 = .ok (.getfield 27, 3) := by decide +kernel
theorem dX1_setLeaf_11 : decode cX1_setLeaf 11 = .ok (.iload_n 1, 1) := by decide +kernel
theorem dX1_setLeaf_12 : decode cX1_setLeaf 12 = .ok (.iload_n 2, 1) := by decide +kernel
theorem dX1_setLeaf_13 : decode cX1_setLeaf 13 = .ok (.iastore, 1) := by decide +kernel
theorem dX1_setLeaf_14 : decode cX1_setLeaf 14 = .ok (.aload_n 0, 1) := by decide +kernel
theorem dX1_setLeaf_15 : decode cX1_setLeaf 15 = .ok (.getfield 24, 3) := by decide +kernel
theorem dX1_setLeaf_18 : decode cX1_setLeaf 18 = .ok (.iload_n 1, 1) := by decide +kernel
theorem dX1_setLeaf_19 : decode cX1_setLeaf 19 = .ok (.iload_n 3, 1) := by decide +kernel
theorem dX1_setLeaf_20 : decode cX1_setLeaf 20 = .ok (.iastore, 1) := by decide +kernel
theorem dX1_setLeaf_21 : decode cX1_setLeaf 21 = .ok (.return_, 1) := by decide +kernel
theorem dX1_commonDivisor_0 : decode cX1_commonDivisor 0 = .ok (.lload_n 0, 1) := by decide +kernel
theorem dX1_commonDivisor_1 : decode cX1_commonDivisor 1 = .ok (.lstore 4, 2) := by decide +kernel
theorem dX1_commonDivisor_3 : decode cX1_commonDivisor 3 = .ok (.lload_n 2, 1) := by decide +kernel
theorem dX1_commonDivisor_4 : decode cX1_commonDivisor 4 = .ok (.lstore 6, 2) := by decide +kernel
theorem dX1_commonDivisor_6 : decode cX1_commonDivisor 6 = .ok (.iconst 0, 1) := by decide +kernel
theorem dX1_commonDivisor_7 : decode cX1_commonDivisor 7 = .ok (.istore 8, 2) := by decide +kernel
theorem dX1_commonDivisor_9 : decode cX1_commonDivisor 9 = .ok (.iload 8, 2) := by decide +kernel
theorem dX1_commonDivisor_11 : decode cX1_commonDivisor 11 = .ok (.bipush 100, 2) := by decide +kernel
theorem dX1_commonDivisor_13 : decode cX1_commonDivisor 13 = .ok (.if_icmp .ge 31, 3) := by decide +kernel
theorem dX1_commonDivisor_16 : decode cX1_commonDivisor 16 = .ok (.lload 6, 2) := by decide +kernel
theorem dX1_commonDivisor_18 : decode cX1_commonDivisor 18 = .ok (.lconst 0, 1) := by decide +kernel
theorem dX1_commonDivisor_19 : decode cX1_commonDivisor 19 = .ok (.lcmp, 1) := by decide +kernel
theorem dX1_commonDivisor_20 : decode cX1_commonDivisor 20 = .ok (.ifCond .eq 24, 3) := by decide +kernel
theorem dX1_commonDivisor_23 : decode cX1_commonDivisor 23 = .ok (.lload 4, 2) := by decide +kernel
theorem dX1_commonDivisor_25 : decode cX1_commonDivisor 25 = .ok (.lload 6, 2) := by decide +kernel
theorem dX1_commonDivisor_27 : decode cX1_commonDivisor 27 = .ok (.lrem, 1) := by decide +kernel
theorem dX1_commonDivisor_28 : decode cX1_commonDivisor 28 = .ok (.lstore 9, 2) := by decide +kernel
theorem dX1_commonDivisor_30 : decode cX1_commonDivisor 30 = .ok (.lload 6, 2) := by decide +kernel
theorem dX1_commonDivisor_32 : decode cX1_commonDivisor 32 = .ok (.lstore 4, 2) := by decide +kernel
theorem dX1_commonDivisor_34 : decode cX1_commonDivisor 34 = .ok (.lload 9, 2) := by decide +kernel
theorem dX1_commonDivisor_36 : decode cX1_commonDivisor 36 = .ok (.lstore 6, 2) := by decide +kernel
theorem dX1_commonDivisor_38 : decode cX1_commonDivisor 38 = .ok (.iinc 8 1, 3) := by decide +kernel
theorem dX1_commonDivisor_41 : decode cX1_commonDivisor 41 = .ok (.goto (-32), 3) := by decide +kernel
theorem dX1_commonDivisor_44 : decode cX1_commonDivisor 44 = .ok (.lload 4, 2) := by decide +kernel
theorem dX1_commonDivisor_46 : decode cX1_commonDivisor 46 = .ok (.lreturn, 1) := by decide +kernel
set_option maxRecDepth 20000 in
theorem ggX1_valueFor_X3_goesLeft : GoodIn wsX1_valueFor wsX3_goesLeft := goodIn_ca (goodIn_ca (goodIn_r _ [10, 11, 12, 13, 9, 14, 15, 25, 26, 27, 28, 29] (by decide +kernel) (by decide +kernel)) (goodIn_sub (fun _ h => List.mem_cons_of_mem _ (List.mem_append_right _ h)) (by decide +kernel))) (goodIn_sub (fun _ h => List.mem_cons_of_mem _ (List.mem_append_left _ (List.mem_append_right _ h))) (by decide +kernel))
set_option maxRecDepth 20000 in
theorem gX1_valueFor_X3_goesLeft : GoodIn wsX1_valueFor (wsV RX1 73 RX3 yX3_goesLeft wsX3_goesLeft) := goodIn_app (goodIn_of _ (by decide +kernel)) ggX1_valueFor_X3_goesLeft
theorem dX1_valueFor_0 : decode cX1_valueFor 0 = .ok (.iload_n 1, 1) := by decide +kernel
theorem dX1_valueFor_1 : decode cX1_valueFor 1 = .ok (.bipush 15, 2) := by decide +kernel
theorem dX1_valueFor_3 : decode cX1_valueFor 3 = .ok (.imul, 1) := by decide +kernel
theorem dX1_valueFor_4 : decode cX1_valueFor 4 = .ok (.istore 4, 2) := by decide +kernel
theorem dX1_valueFor_6 : decode cX1_valueFor 6 = .ok (.iconst 0, 1) := by decide +kernel
theorem dX1_valueFor_7 : decode cX1_valueFor 7 = .ok (.istore 5, 2) := by decide +kernel
theorem dX1_valueFor_9 : decode cX1_valueFor 9 = .ok (.iconst 0, 1) := by decide +kernel
theorem dX1_valueFor_10 : decode cX1_valueFor 10 = .ok (.istore 6, 2) := by decide +kernel
theorem dX1_valueFor_12 : decode cX1_valueFor 12 = .ok (.iload 6, 2) := by decide +kernel
theorem dX1_valueFor_14 : decode cX1_valueFor 14 = .ok (.iconst 3, 1) := by decide +kernel
theorem dX1_valueFor_15 : decode cX1_valueFor 15 = .ok (.if_icmp .ge 80, 3) := by decide +kernel
theorem dX1_valueFor_18 : decode cX1_valueFor 18 = .ok (.aload_n 0, 1) := by decide +kernel
theorem dX1_valueFor_19 : decode cX1_valueFor 19 = .ok (.getfield 9, 3) := by decide +kernel
theorem dX1_valueFor_22 : decode cX1_valueFor 22 = .ok (.iload 4, 2) := by decide +kernel
theorem dX1_valueFor_24 : decode cX1_valueFor 24 = .ok (.iload 5, 2) := by decide +kernel
theorem dX1_valueFor_26 : decode cX1_valueFor 26 = .ok (.iadd, 1) := by decide +kernel
theorem dX1_valueFor_27 : decode cX1_valueFor 27 = .ok (.iaload, 1) := by decide +kernel
theorem dX1_valueFor_28 : decode cX1_valueFor 28 = .ok (.iconst 2, 1) := by decide +kernel
theorem dX1_valueFor_29 : decode cX1_valueFor 29 = .ok (.if_icmp .ne 66, 3) := by decide +kernel
theorem dX1_valueFor_32 : decode cX1_valueFor 32 = .ok (.iload 4, 2) := by decide +kernel
theorem dX1_valueFor_34 : decode cX1_valueFor 34 = .ok (.iload 5, 2) := by decide +kernel
theorem dX1_valueFor_36 : decode cX1_valueFor 36 = .ok (.iadd, 1) := by decide +kernel
theorem dX1_valueFor_37 : decode cX1_valueFor 37 = .ok (.istore 7, 2) := by decide +kernel
theorem dX1_valueFor_39 : decode cX1_valueFor 39 = .ok (.aload_n 2, 1) := by decide +kernel
theorem dX1_valueFor_40 : decode cX1_valueFor 40 = .ok (.iload_n 3, 1) := by decide +kernel
theorem dX1_valueFor_41 : decode cX1_valueFor 41 = .ok (.aload_n 0, 1) := by decide +kernel
theorem dX1_valueFor_42 : decode cX1_valueFor 42 = .ok (.getfield 15, 3) := by decide +kernel
theorem dX1_valueFor_45 : decode cX1_valueFor 45 = .ok (.iload 7, 2) := by decide +kernel
theorem dX1_valueFor_47 : decode cX1_valueFor 47 = .ok (.iaload, 1) := by decide +kernel
theorem dX1_valueFor_48 : decode cX1_valueFor 48 = .ok (.aload_n 0, 1) := by decide +kernel
theorem dX1_valueFor_49 : decode cX1_valueFor 49 = .ok (.getfield 18, 3) := by decide +kernel
theorem dX1_valueFor_52 : decode cX1_valueFor 52 = .ok (.iload 7, 2) := by decide +kernel
theorem dX1_valueFor_54 : decode cX1_valueFor 54 = .ok (.iaload, 1) := by decide +kernel
theorem dX1_valueFor_55 : decode cX1_valueFor 55 = .ok (.aload_n 0, 1) := by decide +kernel
theorem dX1_valueFor_56 : decode cX1_valueFor 56 = .ok (.getfield 21, 3) := by decide +kernel
theorem dX1_valueFor_59 : decode cX1_valueFor 59 = .ok (.iload 7, 2) := by decide +kernel
theorem dX1_valueFor_61 : decode cX1_valueFor 61 = .ok (.iaload, 1) := by decide +kernel
theorem dX1_valueFor_62 : decode cX1_valueFor 62 = .ok (.invokevirtual 73, 3) := by decide +kernel
theorem dX1_valueFor_65 : decode cX1_valueFor 65 = .ok (.istore 8, 2) := by decide +kernel
theorem dX1_valueFor_67 : decode cX1_valueFor 67 = .ok (.iload 8, 2) := by decide +kernel
theorem dX1_valueFor_69 : decode cX1_valueFor 69 = .ok (.ifCond .eq 12, 3) := by decide +kernel
theorem dX1_valueFor_72 : decode cX1_valueFor 72 = .ok (.iconst 2, 1) := by decide +kernel
theorem dX1_valueFor_73 : decode cX1_valueFor 73 = .ok (.iload 5, 2) := by decide +kernel
theorem dX1_valueFor_75 : decode cX1_valueFor 75 = .ok (.imul, 1) := by decide +kernel
theorem dX1_valueFor_76 : decode cX1_valueFor 76 = .ok (.iconst 1, 1) := by decide +kernel
theorem dX1_valueFor_77 : decode cX1_valueFor 77 = .ok (.iadd, 1) := by decide +kernel
theorem dX1_valueFor_78 : decode cX1_valueFor 78 = .ok (.goto 9, 3) := by decide +kernel
theorem dX1_valueFor_81 : decode cX1_valueFor 81 = .ok (.iconst 2, 1) := by decide +kernel
theorem dX1_valueFor_82 : decode cX1_valueFor 82 = .ok (.iload 5, 2) := by decide +kernel
theorem dX1_valueFor_84 : decode cX1_valueFor 84 = .ok (.imul, 1) := by decide +kernel
theorem dX1_valueFor_85 : decode cX1_valueFor 85 = .ok (.iconst 2, 1) := by decide +kernel
theorem dX1_valueFor_86 : decode cX1_valueFor 86 = .ok (.iadd, 1) := by decide +kernel
theorem dX1_valueFor_87 : decode cX1_valueFor 87 = .ok (.istore 5, 2) := by decide +kernel
theorem dX1_valueFor_89 : decode cX1_valueFor 89 = .ok (.iinc 6 1, 3) := by decide +kernel
theorem dX1_valueFor_92 : decode cX1_valueFor 92 = .ok (.goto (-80), 3) := by decide +kernel
theorem dX1_valueFor_95 : decode cX1_valueFor 95 = .ok (.aload_n 0, 1) := by decide +kernel
theorem dX1_valueFor_96 : decode cX1_valueFor 96 = .ok (.getfield 24, 3) := by decide +kernel
theorem dX1_valueFor_99 : decode cX1_valueFor 99 = .ok (.iload 4, 2) := by decide +kernel
theorem dX1_valueFor_101 : decode cX1_valueFor 101 = .ok (.iload 5, 2) := by decide +kernel
theorem dX1_valueFor_103 : decode cX1_valueFor 103 = .ok (.iadd, 1) := by decide +kernel
theorem dX1_valueFor_104 : decode cX1_valueFor 104 = .ok (.iaload, 1) := by decide +kernel
theorem dX1_valueFor_105 : decode cX1_valueFor 105 = .ok (.ireturn, 1) := by decide +kernel
set_option maxRecDepth 20000 in
theorem ggX1_sumFor_X1_valueFor : GoodIn wsX1_sumFor wsX1_valueFor := goodIn_ca (goodIn_ca (goodIn_r _ [6, 7, 8, 9, 10, 11, 12, 13, 14, 15, 16, 17, 18, 19, 20, 21, 22, 23, 24, 25, 26, 27, 28, 29, 30, 31, 32, 33, 34, 35] (by decide +kernel) (by decide +kernel)) (goodIn_sub (fun _ h => List.mem_cons_of_mem _ (List.mem_append_right _ h)) (by decide +kernel))) (goodIn_sub (fun _ h => List.mem_cons_of_mem _ (List.mem_append_left _ (List.mem_append_right _ h))) (by decide +kernel))
set_option maxRecDepth 20000 in
theorem gX1_sumFor_X1_valueFor : GoodIn wsX1_sumFor (wsV RX1 79 RX1 yX1_valueFor wsX1_valueFor) := goodIn_app (goodIn_of _ (by decide +kernel)) ggX1_sumFor_X1_valueFor
theorem dX1_sumFor_0 : decode cX1_sumFor 0 = .ok (.lconst 0, 1) := by decide +kernel
theorem dX1_sumFor_1 : decode cX1_sumFor 1 = .ok (.lstore_n 3, 1) := by decide +kernel
theorem dX1_sumFor_2 : decode cX1_sumFor 2 = .ok (.iconst 0, 1) := by decide +kernel
theorem dX1_sumFor_3 : decode cX1_sumFor 3 = .ok (.istore 5, 2) := by decide +kernel
theorem dX1_sumFor_5 : decode cX1_sumFor 5 = .ok (.iload 5, 2) := by decide +kernel
theorem dX1_sumFor_7 : decode cX1_sumFor 7 = .ok (.aload_n 0, 1) := by decide +kernel
theorem dX1_sumFor_8 : decode cX1_sumFor 8 = .ok (.getfield 37, 3) := by decide +kernel
theorem dX1_sumFor_11 : decode cX1_sumFor 11 = .ok (.if_icmp .ge 21, 3) := by decide +kernel
theorem dX1_sumFor_14 : decode cX1_sumFor 14 = .ok (.lload_n 3, 1) := by decide +kernel
theorem dX1_sumFor_15 : decode cX1_sumFor 15 = .ok (.aload_n 0, 1) := by decide +kernel
theorem dX1_sumFor_16 : decode cX1_sumFor 16 = .ok (.iload 5, 2) := by decide +kernel
theorem dX1_sumFor_18 : decode cX1_sumFor 18 = .ok (.aload_n 1, 1) := by decide +kernel
theorem dX1_sumFor_19 : decode cX1_sumFor 19 = .ok (.iload_n 2, 1) := by decide +kernel
theorem dX1_sumFor_20 : decode cX1_sumFor 20 = .ok (.invokevirtual 79, 3) := by decide +kernel
theorem dX1_sumFor_23 : decode cX1_sumFor 23 = .ok (.i2l, 1) := by decide +kernel
theorem dX1_sumFor_24 : decode cX1_sumFor 24 = .ok (.ladd, 1) := by decide +kernel
theorem dX1_sumFor_25 : decode cX1_sumFor 25 = .ok (.lstore_n 3, 1) := by decide +kernel
theorem dX1_sumFor_26 : decode cX1_sumFor 26 = .ok (.iinc 5 1, 3) := by decide +kernel
theorem dX1_sumFor_29 : decode cX1_sumFor 29 = .ok (.goto (-24), 3) := by decide +kernel
theorem dX1_sumFor_32 : decode cX1_sumFor 32 = .ok (.lload_n 3, 1) := by decide +kernel
theorem dX1_sumFor_33 : decode cX1_sumFor 33 = .ok (.lreturn, 1) := by decide +kernel
theorem dX1_countLeaves_0 : decode cX1_countLeaves 0 = .ok (.iconst 0, 1) := by decide +kernel
theorem dX1_countLeaves_1 : decode cX1_countLeaves 1 = .ok (.istore_n 3, 1) := by decide +kernel
theorem dX1_countLeaves_2 : decode cX1_countLeaves 2 = .ok (.iload_n 1, 1) := by decide +kernel
theorem dX1_countLeaves_3 : decode cX1_countLeaves 3 = .ok (.bipush 15, 2) := by decide +kernel
theorem dX1_countLeaves_5 : decode cX1_countLeaves 5 = .ok (.imul, 1) := by decide +kernel
theorem dX1_countLeaves_6 : decode cX1_countLeaves 6 = .ok (.istore 4, 2) := by decide +kernel
theorem dX1_countLeaves_8 : decode cX1_countLeaves 8 = .ok (.iload 4, 2) := by decide +kernel
theorem dX1_countLeaves_10 : decode cX1_countLeaves 10 = .ok (.iload_n 2, 1) := by decide +kernel
theorem dX1_countLeaves_11 : decode cX1_countLeaves 11 = .ok (.bipush 15, 2) := by decide +kernel
theorem dX1_countLeaves_13 : decode cX1_countLeaves 13 = .ok (.imul, 1) := by decide +kernel
theorem dX1_countLeaves_14 : decode cX1_countLeaves 14 = .ok (.if_icmp .ge 23, 3) := by decide +kernel
theorem dX1_countLeaves_17 : decode cX1_countLeaves 17 = .ok (.aload_n 0, 1) := by decide +kernel
theorem dX1_countLeaves_18 : decode cX1_countLeaves 18 = .ok (.getfield 9, 3) := by decide +kernel
theorem dX1_countLeaves_21 : decode cX1_countLeaves 21 = .ok (.iload 4, 2) := by decide +kernel
theorem dX1_countLeaves_23 : decode cX1_countLeaves 23 = .ok (.iaload, 1) := by decide +kernel
theorem dX1_countLeaves_24 : decode cX1_countLeaves 24 = .ok (.iconst 1, 1) := by decide +kernel
theorem dX1_countLeaves_25 : decode cX1_countLeaves 25 = .ok (.if_icmp .ne 6, 3) := by decide +kernel
theorem dX1_countLeaves_28 : decode cX1_countLeaves 28 = .ok (.iinc 3 1, 3) := by decide +kernel
theorem dX1_countLeaves_31 : decode cX1_countLeaves 31 = .ok (.iinc 4 1, 3) := by decide +kernel
theorem dX1_countLeaves_34 : decode cX1_countLeaves 34 = .ok (.goto (-26), 3) := by decide +kernel
theorem dX1_countLeaves_37 : decode cX1_countLeaves 37 = .ok (.iload_n 3, 1) := by decide +kernel
theorem dX1_countLeaves_38 : decode cX1_countLeaves 38 = .ok (.ireturn, 1) := by decide +kernel
theorem dX1_countCutsBy_0 : decode cX1_countCutsBy 0 = .ok (.iconst 0, 1) := by decide +kernel
theorem dX1_countCutsBy_1 : decode cX1_countCutsBy 1 = .ok (.istore_n 2, 1) := by decide +kernel
theorem dX1_countCutsBy_2 : decode cX1_countCutsBy 2 = .ok (.iconst 0, 1) := by decide +kernel
theorem dX1_countCutsBy_3 : decode cX1_countCutsBy 3 = .ok (.istore_n 3, 1) := by decide +kernel
theorem dX1_countCutsBy_4 : decode cX1_countCutsBy 4 = .ok (.iload_n 3, 1) := by decide +kernel
theorem dX1_countCutsBy_5 : decode cX1_countCutsBy 5 = .ok (.aload_n 0, 1) := by decide +kernel
theorem dX1_countCutsBy_6 : decode cX1_countCutsBy 6 = .ok (.getfield 37, 3) := by decide +kernel
theorem dX1_countCutsBy_9 : decode cX1_countCutsBy 9 = .ok (.bipush 15, 2) := by decide +kernel
theorem dX1_countCutsBy_11 : decode cX1_countCutsBy 11 = .ok (.imul, 1) := by decide +kernel
theorem dX1_countCutsBy_12 : decode cX1_countCutsBy 12 = .ok (.if_icmp .ge 32, 3) := by decide +kernel
theorem dX1_countCutsBy_15 : decode cX1_countCutsBy 15 = .ok (.aload_n 0, 1) := by decide +kernel
theorem dX1_countCutsBy_16 : decode cX1_countCutsBy 16 = .ok (.getfield 9, 3) := by decide +kernel
theorem dX1_countCutsBy_19 : decode cX1_countCutsBy 19 = .ok (.iload_n 3, 1) := by decide +kernel
theorem dX1_countCutsBy_20 : decode cX1_countCutsBy 20 = .ok (.iaload, 1) := by decide +kernel
theorem dX1_countCutsBy_21 : decode cX1_countCutsBy 21 = .ok (.iconst 2, 1) := by decide +kernel
theorem dX1_countCutsBy_22 : decode cX1_countCutsBy 22 = .ok (.if_icmp .ne 16, 3) := by decide +kernel
theorem dX1_countCutsBy_25 : decode cX1_countCutsBy 25 = .ok (.aload_n 0, 1) := by decide +kernel
theorem dX1_countCutsBy_26 : decode cX1_countCutsBy 26 = .ok (.getfield 15, 3) := by decide +kernel
theorem dX1_countCutsBy_29 : decode cX1_countCutsBy 29 = .ok (.iload_n 3, 1) := by decide +kernel
theorem dX1_countCutsBy_30 : decode cX1_countCutsBy 30 = .ok (.iaload, 1) := by decide +kernel
theorem dX1_countCutsBy_31 : decode cX1_countCutsBy 31 = .ok (.iload_n 1, 1) := by decide +kernel
theorem dX1_countCutsBy_32 : decode cX1_countCutsBy 32 = .ok (.if_icmp .ne 6, 3) := by decide +kernel
theorem dX1_countCutsBy_35 : decode cX1_countCutsBy 35 = .ok (.iinc 2 1, 3) := by decide +kernel
theorem dX1_countCutsBy_38 : decode cX1_countCutsBy 38 = .ok (.iinc 3 1, 3) := by decide +kernel
theorem dX1_countCutsBy_41 : decode cX1_countCutsBy 41 = .ok (.goto (-37), 3) := by decide +kernel
theorem dX1_countCutsBy_44 : decode cX1_countCutsBy 44 = .ok (.iload_n 2, 1) := by decide +kernel
theorem dX1_countCutsBy_45 : decode cX1_countCutsBy 45 = .ok (.ireturn, 1) := by decide +kernel
set_option maxRecDepth 20000 in
theorem ggX2_init_X0_init : GoodIn wsX2_init wsX0_init := goodIn_r _ [12, 13, 2, 3] (by decide +kernel) (by decide +kernel)
set_option maxRecDepth 20000 in
theorem gX2_init_X0_init_n20 : GoodIn wsX2_init (wsX0_init) := ggX2_init_X0_init
theorem dX2_init_0 : decode cX2_init 0 = .ok (.aload_n 0, 1) := by decide +kernel
theorem dX2_init_1 : decode cX2_init 1 = .ok (.invokespecial 3, 3) := by decide +kernel
theorem dX2_init_4 : decode cX2_init 4 = .ok (.aload_n 0, 1) := by decide +kernel
theorem dX2_init_5 : decode cX2_init 5 = .ok (.bipush 24, 2) := by decide +kernel
theorem dX2_init_7 : decode cX2_init 7 = .ok (.newarray .int, 2) := by decide +kernel
theorem dX2_init_9 : decode cX2_init 9 = .ok (.putfield 9, 3) := by decide +kernel
theorem dX2_init_12 : decode cX2_init 12 = .ok (.aload_n 0, 1) := by decide +kernel
theorem dX2_init_13 : decode cX2_init 13 = .ok (.bipush 24, 2) := by decide +kernel
theorem dX2_init_15 : decode cX2_init 15 = .ok (.newarray .int, 2) := by decide +kernel
theorem dX2_init_17 : decode cX2_init 17 = .ok (.putfield 15, 3) := by decide +kernel
theorem dX2_init_20 : decode cX2_init 20 = .ok (.aload_n 0, 1) := by decide +kernel
theorem dX2_init_21 : decode cX2_init 21 = .ok (.new 18, 3) := by decide +kernel
theorem dX2_init_24 : decode cX2_init 24 = .ok (.dup, 1) := by decide +kernel
theorem dX2_init_25 : decode cX2_init 25 = .ok (.invokespecial 20, 3) := by decide +kernel
theorem dX2_init_28 : decode cX2_init 28 = .ok (.putfield 21, 3) := by decide +kernel
theorem dX2_init_31 : decode cX2_init 31 = .ok (.return_, 1) := by decide +kernel
set_option maxRecDepth 20000 in
theorem ggX2_growTree_X3_pushOf : GoodIn wsX2_growTree wsX3_pushOf := goodIn_ca (goodIn_ca (goodIn_r _ [9, 10, 11, 12, 13, 8, 14, 15, 16, 17, 18, 19, 20, 21, 106, 107, 108, 109, 110] (by decide +kernel) (by decide +kernel)) (goodIn_sub (fun _ h => List.mem_cons_of_mem _ (List.mem_append_left _ (List.mem_append_left _ (List.mem_append_right _ h)))) (by decide +kernel))) (goodIn_sub (fun _ h => List.mem_cons_of_mem _ (List.mem_append_left _ (List.mem_append_right _ h))) (by decide +kernel))
set_option maxRecDepth 20000 in
theorem gX2_growTree_X3_pushOf : GoodIn wsX2_growTree (wsV RX2 31 RX3 yX3_pushOf wsX3_pushOf) := goodIn_app (goodIn_of _ (by decide +kernel)) ggX2_growTree_X3_pushOf
set_option maxRecDepth 20000 in
theorem ggX2_growTree_X2_gather : GoodIn wsX2_growTree wsX2_gather := goodIn_ca (goodIn_ca (goodIn_r _ [26, 4, 27, 1, 3, 2, 111, 112, 113, 114, 115, 106, 107, 108, 109, 110] (by decide +kernel) (by decide +kernel)) (goodIn_sub (fun _ h => List.mem_cons_of_mem _ (List.mem_append_left _ (List.mem_append_left _ (List.mem_append_right _ h)))) (by decide +kernel))) (goodIn_sub (fun _ h => List.mem_cons_of_mem _ (List.mem_append_left _ (List.mem_append_right _ h))) (by decide +kernel))
set_option maxRecDepth 20000 in
theorem gX2_growTree_X2_gather : GoodIn wsX2_growTree (wsV RX2 35 RX2 yX2_gather wsX2_gather) := goodIn_app (goodIn_of _ (by decide +kernel)) ggX2_growTree_X2_gather
set_option maxRecDepth 20000 in
theorem ggX2_growTree_X2_growNode : GoodIn wsX2_growTree wsX2_growNode := goodIn_ca (goodIn_ca (goodIn_ca (goodIn_r _ [31, 32, 33, 4, 27, 34, 35, 25, 36, 37, 38, 39, 40, 1, 3, 41, 42, 43, 8, 44, 45, 46, 47, 48, 49, 2, 50, 51, 52, 53, 54, 55, 56, 57, 58, 59, 60, 61, 62, 63, 64, 65, 66, 67, 68, 69, 70, 71, 72, 73, 74, 75, 76, 77, 78, 79, 80, 81, 82, 83, 84, 85, 86, 87, 88, 89, 90, 91, 92, 93, 94, 95, 96, 97, 98, 99, 100, 101, 102, 103, 104, 105, 111, 112, 113, 114, 115, 116, 117, 118, 119, 120, 121, 106, 107, 108, 109, 110, 122, 123, 124, 125, 126, 127, 128, 129, 130] (by decide +kernel) (by decide +kernel)) (goodIn_sub (fun _ h => List.mem_cons_of_mem _ (List.mem_append_left _ (List.mem_append_left _ (List.mem_append_right _ h)))) (by decide +kernel))) (goodIn_sub (fun _ h => List.mem_cons_of_mem _ (List.mem_append_left _ (List.mem_append_right _ h))) (by decide +kernel))) (goodIn_sub (fun _ h => List.mem_cons_of_mem _ (List.mem_append_right _ h)) (by decide +kernel))
set_option maxRecDepth 20000 in
theorem gX2_growTree_X2_growNode : GoodIn wsX2_growTree (wsV RX2 42 RX2 yX2_growNode wsX2_growNode) := goodIn_app (goodIn_of _ (by decide +kernel)) ggX2_growTree_X2_growNode
theorem dX2_growTree_0 : decode cX2_growTree 0 = .ok (.iconst 0, 1) := by decide +kernel
theorem dX2_growTree_1 : decode cX2_growTree 1 = .ok (.istore 5, 2) := by decide +kernel
theorem dX2_growTree_3 : decode cX2_growTree 3 = .ok (.iload 5, 2) := by decide +kernel
theorem dX2_growTree_5 : decode cX2_growTree 5 = .ok (.aload_n 1, 1) := by decide +kernel
theorem dX2_growTree_6 : decode cX2_growTree 6 = .ok (.getfield 25, 3) := by decide +kernel
theorem dX2_growTree_9 : decode cX2_growTree 9 = .ok (.if_icmp .ge 34, 3) := by decide +kernel
theorem dX2_growTree_12 : decode cX2_growTree 12 = .ok (.aload_n 0, 1) := by decide +kernel
theorem dX2_growTree_13 : decode cX2_growTree 13 = .ok (.getfield 9, 3) := by decide +kernel
theorem dX2_growTree_16 : decode cX2_growTree 16 = .ok (.iload 5, 2) := by decide +kernel
theorem dX2_growTree_18 : decode cX2_growTree 18 = .ok (.aload_n 1, 1) := by decide +kernel
theorem dX2_growTree_19 : decode cX2_growTree 19 = .ok (.iload 5, 2) := by decide +kernel
theorem dX2_growTree_21 : decode cX2_growTree 21 = .ok (.aload 4, 2) := by decide +kernel
theorem dX2_growTree_23 : decode cX2_growTree 23 = .ok (.iconst 0, 1) := by decide +kernel
theorem dX2_growTree_24 : decode cX2_growTree 24 = .ok (.iaload, 1) := by decide +kernel
theorem dX2_growTree_25 : decode cX2_growTree 25 = .ok (.invokevirtual 31, 3) := by decide +kernel
theorem dX2_growTree_28 : decode cX2_growTree 28 = .ok (.iastore, 1) := by decide +kernel
theorem dX2_growTree_29 : decode cX2_growTree 29 = .ok (.aload_n 0, 1) := by decide +kernel
theorem dX2_growTree_30 : decode cX2_growTree 30 = .ok (.getfield 15, 3) := by decide +kernel
theorem dX2_growTree_33 : decode cX2_growTree 33 = .ok (.iload 5, 2) := by decide +kernel
theorem dX2_growTree_35 : decode cX2_growTree 35 = .ok (.iconst 0, 1) := by decide +kernel
theorem dX2_growTree_36 : decode cX2_growTree 36 = .ok (.iastore, 1) := by decide +kernel
theorem dX2_growTree_37 : decode cX2_growTree 37 = .ok (.iinc 5 1, 3) := by decide +kernel
theorem dX2_growTree_40 : decode cX2_growTree 40 = .ok (.goto (-37), 3) := by decide +kernel
theorem dX2_growTree_43 : decode cX2_growTree 43 = .ok (.iconst 0, 1) := by decide +kernel
theorem dX2_growTree_44 : decode cX2_growTree 44 = .ok (.istore 5, 2) := by decide +kernel
theorem dX2_growTree_46 : decode cX2_growTree 46 = .ok (.iload 5, 2) := by decide +kernel
theorem dX2_growTree_48 : decode cX2_growTree 48 = .ok (.bipush 15, 2) := by decide +kernel
theorem dX2_growTree_50 : decode cX2_growTree 50 = .ok (.if_icmp .ge 34, 3) := by decide +kernel
theorem dX2_growTree_53 : decode cX2_growTree 53 = .ok (.aload_n 0, 1) := by decide +kernel
theorem dX2_growTree_54 : decode cX2_growTree 54 = .ok (.aload_n 1, 1) := by decide +kernel
theorem dX2_growTree_55 : decode cX2_growTree 55 = .ok (.iload 5, 2) := by decide +kernel
theorem dX2_growTree_57 : decode cX2_growTree 57 = .ok (.invokevirtual 35, 3) := by decide +kernel
theorem dX2_growTree_60 : decode cX2_growTree 60 = .ok (.aload_n 0, 1) := by decide +kernel
theorem dX2_growTree_61 : decode cX2_growTree 61 = .ok (.getfield 39, 3) := by decide +kernel
theorem dX2_growTree_64 : decode cX2_growTree 64 = .ok (.ifCond .le 14, 3) := by decide +kernel
theorem dX2_growTree_67 : decode cX2_growTree 67 = .ok (.aload_n 0, 1) := by decide +kernel
theorem dX2_growTree_68 : decode cX2_growTree 68 = .ok (.aload_n 1, 1) := by decide +kernel
theorem dX2_growTree_69 : decode cX2_growTree 69 = .ok (.aload_n 2, 1) := by decide +kernel
theorem dX2_growTree_70 : decode cX2_growTree 70 = .ok (.iload_n 3, 1) := by decide +kernel
theorem dX2_growTree_71 : decode cX2_growTree 71 = .ok (.iload 5, 2) := by decide +kernel
theorem dX2_growTree_73 : decode cX2_growTree 73 = .ok (.aload 4, 2) := by decide +kernel
theorem dX2_growTree_75 : decode cX2_growTree 75 = .ok (.invokevirtual 42, 3) := by decide +kernel
theorem dX2_growTree_78 : decode cX2_growTree 78 = .ok (.iinc 5 1, 3) := by decide +kernel
theorem dX2_growTree_81 : decode cX2_growTree 81 = .ok (.goto (-35), 3) := by decide +kernel
theorem dX2_growTree_84 : decode cX2_growTree 84 = .ok (.return_, 1) := by decide +kernel
theorem dX2_gather_0 : decode cX2_gather 0 = .ok (.aload_n 0, 1) := by decide +kernel
theorem dX2_gather_1 : decode cX2_gather 1 = .ok (.iconst 0, 1) := by decide +kernel
theorem dX2_gather_2 : decode cX2_gather 2 = .ok (.putfield 39, 3) := by decide +kernel
theorem dX2_gather_5 : decode cX2_gather 5 = .ok (.aload_n 0, 1) := by decide +kernel
theorem dX2_gather_6 : decode cX2_gather 6 = .ok (.iconst 0, 1) := by decide +kernel
theorem dX2_gather_7 : decode cX2_gather 7 = .ok (.putfield 46, 3) := by decide +kernel
theorem dX2_gather_10 : decode cX2_gather 10 = .ok (.iconst 0, 1) := by decide +kernel
theorem dX2_gather_11 : decode cX2_gather 11 = .ok (.istore_n 3, 1) := by decide +kernel
theorem dX2_gather_12 : decode cX2_gather 12 = .ok (.iload_n 3, 1) := by decide +kernel
theorem dX2_gather_13 : decode cX2_gather 13 = .ok (.aload_n 1, 1) := by decide +kernel
theorem dX2_gather_14 : decode cX2_gather 14 = .ok (.getfield 25, 3) := by decide +kernel
theorem dX2_gather_17 : decode cX2_gather 17 = .ok (.if_icmp .ge 44, 3) := by decide +kernel
theorem dX2_gather_20 : decode cX2_gather 20 = .ok (.aload_n 0, 1) := by decide +kernel
theorem dX2_gather_21 : decode cX2_gather 21 = .ok (.getfield 15, 3) := by decide +kernel
theorem dX2_gather_24 : decode cX2_gather 24 = .ok (.iload_n 3, 1) := by decide +kernel
theorem dX2_gather_25 : decode cX2_gather 25 = .ok (.iaload, 1) := by decide +kernel
theorem dX2_gather_26 : decode cX2_gather 26 = .ok (.iload_n 2, 1) := by decide +kernel
theorem dX2_gather_27 : decode cX2_gather 27 = .ok (.if_icmp .ne 28, 3) := by decide +kernel
theorem dX2_gather_30 : decode cX2_gather 30 = .ok (.aload_n 0, 1) := by decide +kernel
theorem dX2_gather_31 : decode cX2_gather 31 = .ok (.dup, 1) := by decide +kernel
theorem dX2_gather_32 : decode cX2_gather 32 = .ok (.getfield 39, 3) := by decide +kernel
theorem dX2_gather_35 : decode cX2_gather 35 = .ok (.iconst 1, 1) := by decide +kernel
theorem dX2_gather_36 : decode cX2_gather 36 = .ok (.iadd, 1) := by decide +kernel
theorem dX2_gather_37 : decode cX2_gather 37 = .ok (.putfield 39, 3) := by decide +kernel
theorem dX2_gather_40 : decode cX2_gather 40 = .ok (.aload_n 0, 1) := by decide +kernel
theorem dX2_gather_41 : decode cX2_gather 41 = .ok (.dup, 1) := by decide +kernel
theorem dX2_gather_42 : decode cX2_gather 42 = .ok (.getfield 46, 3) := by decide +kernel
theorem dX2_gather_45 : decode cX2_gather 45 = .ok (.aload_n 0, 1) := by decide +kernel
theorem dX2_gather_46 : decode cX2_gather 46 = .ok (.getfield 9, 3) := by decide +kernel
theorem dX2_gather_49 : decode cX2_gather 49 = .ok (.iload_n 3, 1) := by decide +kernel
theorem dX2_gather_50 : decode cX2_gather 50 = .ok (.iaload, 1) := by decide +kernel
theorem dX2_gather_51 : decode cX2_gather 51 = .ok (.iadd, 1) := by decide +kernel
theorem dX2_gather_52 : decode cX2_gather 52 = .ok (.putfield 46, 3) := by decide +kernel
theorem dX2_gather_55 : decode cX2_gather 55 = .ok (.iinc 3 1, 3) := by decide +kernel
theorem dX2_gather_58 : decode cX2_gather 58 = .ok (.goto (-46), 3) := by decide +kernel
theorem dX2_gather_61 : decode cX2_gather 61 = .ok (.return_, 1) := by decide +kernel
set_option maxRecDepth 20000 in
theorem ggX2_growNode_X2_depthOf : GoodIn wsX2_growNode wsX2_depthOf := goodIn_r _ [8] (by decide +kernel) (by decide +kernel)
set_option maxRecDepth 20000 in
theorem gX2_growNode_X2_depthOf : GoodIn wsX2_growNode (va_wsS RX2 53 yX2_depthOf wsX2_depthOf) := goodIn_app (goodIn_of _ (by decide +kernel)) ggX2_growNode_X2_depthOf
set_option maxRecDepth 20000 in
theorem ggX2_growNode_X2_seekCut : GoodIn wsX2_growNode wsX2_seekCut := goodIn_ca (goodIn_ca (goodIn_r _ [12, 13, 14, 15, 16, 17, 18, 19, 20, 21, 22, 23, 7, 24, 25, 3, 4, 1, 26, 27, 28, 29, 30, 31, 32, 33, 34, 35, 36, 37, 38, 39, 40, 41, 42, 43, 44, 45, 93, 94, 95, 96, 97, 82, 83, 84, 85, 86, 87, 88, 89, 90, 91, 92] (by decide +kernel) (by decide +kernel)) (goodIn_sub (fun _ h => List.mem_cons_of_mem _ (List.mem_append_left _ (List.mem_append_left _ (List.mem_append_right _ h)))) (by decide +kernel))) (goodIn_sub (fun _ h => List.mem_cons_of_mem _ (List.mem_append_left _ (List.mem_append_right _ h))) (by decide +kernel))
set_option maxRecDepth 20000 in
theorem gX2_growNode_X2_seekCut : GoodIn wsX2_growNode (wsV RX2 57 RX2 yX2_seekCut wsX2_seekCut) := goodIn_app (goodIn_of _ (by decide +kernel)) ggX2_growNode_X2_seekCut
set_option maxRecDepth 20000 in
theorem ggX2_growNode_X1_setCut : GoodIn wsX2_growNode wsX1_setCut := goodIn_ca (goodIn_ca (goodIn_ca (goodIn_r _ [50, 51, 52, 53, 54, 55, 56, 57, 58, 59, 60, 61, 62, 63, 64, 49, 65, 98, 99, 100, 101, 102, 103, 104, 105, 106, 87, 88, 89, 90, 91, 92] (by decide +kernel) (by decide +kernel)) (goodIn_sub (fun _ h => List.mem_cons_of_mem _ (List.mem_append_left _ (List.mem_append_right _ h))) (by decide +kernel))) (goodIn_sub (fun _ h => List.mem_cons_of_mem _ (List.mem_append_left _ (List.mem_append_left _ (List.mem_append_right _ h)))) (by decide +kernel))) (goodIn_sub (fun _ h => List.mem_cons_of_mem _ (List.mem_append_right _ h)) (by decide +kernel))
set_option maxRecDepth 20000 in
theorem gX2_growNode_X1_setCut : GoodIn wsX2_growNode (wsV RX2 61 RX1 yX1_setCut wsX1_setCut) := goodIn_app (goodIn_of _ (by decide +kernel)) ggX2_growNode_X1_setCut
set_option maxRecDepth 20000 in
theorem ggX2_growNode_X2_part : GoodIn wsX2_growNode wsX2_part := goodIn_ca (goodIn_ca (goodIn_r _ [69, 13, 14, 1, 70, 71, 72, 26, 27, 28, 18, 29, 30, 16, 17, 19, 20, 93, 94, 95, 96, 97, 82, 83, 84, 85, 86, 87, 88, 89, 90, 91, 92] (by decide +kernel) (by decide +kernel)) (goodIn_sub (fun _ h => List.mem_cons_of_mem _ (List.mem_append_left _ (List.mem_append_left _ (List.mem_append_right _ h)))) (by decide +kernel))) (goodIn_sub (fun _ h => List.mem_cons_of_mem _ (List.mem_append_left _ (List.mem_append_right _ h))) (by decide +kernel))
set_option maxRecDepth 20000 in
theorem gX2_growNode_X2_part : GoodIn wsX2_growNode (wsV RX2 67 RX2 yX2_part wsX2_part) := goodIn_app (goodIn_of _ (by decide +kernel)) ggX2_growNode_X2_part
set_option maxRecDepth 20000 in
theorem ggX2_growNode_J9_floorDiv_7cf53 : GoodIn wsX2_growNode wsJ9_floorDiv_7cf53 := goodIn_r _ [76] (by decide +kernel) (by decide +kernel)
set_option maxRecDepth 20000 in
theorem gX2_growNode_J9_floorDiv_7cf53 : GoodIn wsX2_growNode (va_wsS RX2 70 yJ9_floorDiv_7cf53 wsJ9_floorDiv_7cf53) := goodIn_app (goodIn_of _ (by decide +kernel)) ggX2_growNode_J9_floorDiv_7cf53
set_option maxRecDepth 20000 in
theorem ggX2_growNode_X1_setLeaf : GoodIn wsX2_growNode wsX1_setLeaf := goodIn_ca (goodIn_ca (goodIn_r _ [80, 51, 52, 81, 98, 99, 100, 101, 102, 103, 104, 105, 106] (by decide +kernel) (by decide +kernel)) (goodIn_sub (fun _ h => List.mem_cons_of_mem _ (List.mem_append_left _ (List.mem_append_right _ h))) (by decide +kernel))) (goodIn_sub (fun _ h => List.mem_cons_of_mem _ (List.mem_append_left _ (List.mem_append_left _ (List.mem_append_right _ h)))) (by decide +kernel))
set_option maxRecDepth 20000 in
theorem gX2_growNode_X1_setLeaf : GoodIn wsX2_growNode (wsV RX2 75 RX1 yX1_setLeaf wsX1_setLeaf) := goodIn_app (goodIn_of _ (by decide +kernel)) ggX2_growNode_X1_setLeaf
theorem dX2_growNode_0 : decode cX2_growNode 0 = .ok (.iload_n 3, 1) := by decide +kernel
theorem dX2_growNode_1 : decode cX2_growNode 1 = .ok (.bipush 15, 2) := by decide +kernel
theorem dX2_growNode_3 : decode cX2_growNode 3 = .ok (.imul, 1) := by decide +kernel
theorem dX2_growNode_4 : decode cX2_growNode 4 = .ok (.iload 4, 2) := by decide +kernel
theorem dX2_growNode_6 : decode cX2_growNode 6 = .ok (.iadd, 1) := by decide +kernel
theorem dX2_growNode_7 : decode cX2_growNode 7 = .ok (.istore 6, 2) := by decide +kernel
theorem dX2_growNode_9 : decode cX2_growNode 9 = .ok (.aload_n 0, 1) := by decide +kernel
theorem dX2_growNode_10 : decode cX2_growNode 10 = .ok (.getfield 21, 3) := by decide +kernel
theorem dX2_growNode_13 : decode cX2_growNode 13 = .ok (.iconst 0, 1) := by decide +kernel
theorem dX2_growNode_14 : decode cX2_growNode 14 = .ok (.putfield 49, 3) := by decide +kernel
theorem dX2_growNode_17 : decode cX2_growNode 17 = .ok (.iload 4, 2) := by decide +kernel
theorem dX2_growNode_19 : decode cX2_growNode 19 = .ok (.invokestatic 53, 3) := by decide +kernel
theorem dX2_growNode_22 : decode cX2_growNode 22 = .ok (.aload 5, 2) := by decide +kernel
theorem dX2_growNode_24 : decode cX2_growNode 24 = .ok (.iconst 2, 1) := by decide +kernel
theorem dX2_growNode_25 : decode cX2_growNode 25 = .ok (.iaload, 1) := by decide +kernel
theorem dX2_growNode_26 : decode cX2_growNode 26 = .ok (.if_icmp .ge 14, 3) := by decide +kernel
theorem dX2_growNode_29 : decode cX2_growNode 29 = .ok (.aload_n 0, 1) := by decide +kernel
theorem dX2_growNode_30 : decode cX2_growNode 30 = .ok (.aload_n 1, 1) := by decide +kernel
theorem dX2_growNode_31 : decode cX2_growNode 31 = .ok (.iload 4, 2) := by decide +kernel
theorem dX2_growNode_33 : decode cX2_growNode 33 = .ok (.aload 5, 2) := by decide +kernel
theorem dX2_growNode_35 : decode cX2_growNode 35 = .ok (.iconst 3, 1) := by decide +kernel
theorem dX2_growNode_36 : decode cX2_growNode 36 = .ok (.iaload, 1) := by decide +kernel
theorem dX2_growNode_37 : decode cX2_growNode 37 = .ok (.invokevirtual 57, 3) := by decide +kernel
theorem dX2_growNode_40 : decode cX2_growNode 40 = .ok (.aload_n 0, 1) := by decide +kernel
theorem dX2_growNode_41 : decode cX2_growNode 41 = .ok (.getfield 21, 3) := by decide +kernel
theorem dX2_growNode_44 : decode cX2_growNode 44 = .ok (.getfield 49, 3) := by decide +kernel
theorem dX2_growNode_47 : decode cX2_growNode 47 = .ok (.ifCond .eq 27, 3) := by decide +kernel
theorem dX2_growNode_50 : decode cX2_growNode 50 = .ok (.aload_n 2, 1) := by decide +kernel
theorem dX2_growNode_51 : decode cX2_growNode 51 = .ok (.iload 6, 2) := by decide +kernel
theorem dX2_growNode_53 : decode cX2_growNode 53 = .ok (.aload_n 0, 1) := by decide +kernel
theorem dX2_growNode_54 : decode cX2_growNode 54 = .ok (.getfield 39, 3) := by decide +kernel
theorem dX2_growNode_57 : decode cX2_growNode 57 = .ok (.aload_n 0, 1) := by decide +kernel
theorem dX2_growNode_58 : decode cX2_growNode 58 = .ok (.getfield 21, 3) := by decide +kernel
theorem dX2_growNode_61 : decode cX2_growNode 61 = .ok (.invokevirtual 61, 3) := by decide +kernel
theorem dX2_growNode_64 : decode cX2_growNode 64 = .ok (.aload_n 0, 1) := by decide +kernel
theorem dX2_growNode_65 : decode cX2_growNode 65 = .ok (.aload_n 1, 1) := by decide +kernel
theorem dX2_growNode_66 : decode cX2_growNode 66 = .ok (.iload 4, 2) := by decide +kernel
theorem dX2_growNode_68 : decode cX2_growNode 68 = .ok (.invokevirtual 67, 3) := by decide +kernel
theorem dX2_growNode_71 : decode cX2_growNode 71 = .ok (.goto 40, 3) := by decide +kernel
theorem dX2_growNode_74 : decode cX2_growNode 74 = .ok (.aload_n 2, 1) := by decide +kernel
theorem dX2_growNode_75 : decode cX2_growNode 75 = .ok (.iload 6, 2) := by decide +kernel
theorem dX2_growNode_77 : decode cX2_growNode 77 = .ok (.aload_n 0, 1) := by decide +kernel
theorem dX2_growNode_78 : decode cX2_growNode 78 = .ok (.getfield 39, 3) := by decide +kernel
theorem dX2_growNode_81 : decode cX2_growNode 81 = .ok (.aload_n 0, 1) := by decide +kernel
theorem dX2_growNode_82 : decode cX2_growNode 82 = .ok (.getfield 39, 3) := by decide +kernel
theorem dX2_growNode_85 : decode cX2_growNode 85 = .ok (.ifCond .le 22, 3) := by decide +kernel
theorem dX2_growNode_88 : decode cX2_growNode 88 = .ok (.aload 5, 2) := by decide +kernel
theorem dX2_growNode_90 : decode cX2_growNode 90 = .ok (.iconst 1, 1) := by decide +kernel
theorem dX2_growNode_91 : decode cX2_growNode 91 = .ok (.iaload, 1) := by decide +kernel
theorem dX2_growNode_92 : decode cX2_growNode 92 = .ok (.aload_n 0, 1) := by decide +kernel
theorem dX2_growNode_93 : decode cX2_growNode 93 = .ok (.getfield 46, 3) := by decide +kernel
theorem dX2_growNode_96 : decode cX2_growNode 96 = .ok (.imul, 1) := by decide +kernel
theorem dX2_growNode_97 : decode cX2_growNode 97 = .ok (.aload_n 0, 1) := by decide +kernel
theorem dX2_growNode_98 : decode cX2_growNode 98 = .ok (.getfield 39, 3) := by decide +kernel
theorem dX2_growNode_101 : decode cX2_growNode 101 = .ok (.invokestatic 70, 3) := by decide +kernel
theorem dX2_growNode_104 : decode cX2_growNode 104 = .ok (.goto 4, 3) := by decide +kernel
theorem dX2_growNode_107 : decode cX2_growNode 107 = .ok (.iconst 0, 1) := by decide +kernel
theorem dX2_growNode_108 : decode cX2_growNode 108 = .ok (.invokevirtual 75, 3) := by decide +kernel
theorem dX2_growNode_111 : decode cX2_growNode 111 = .ok (.return_, 1) := by decide +kernel
theorem dX2_depthOf_0 : decode cX2_depthOf 0 = .ok (.iload_n 0, 1) := by decide +kernel
theorem dX2_depthOf_1 : decode cX2_depthOf 1 = .ok (.ifCond .ne 5, 3) := by decide +kernel
theorem dX2_depthOf_4 : decode cX2_depthOf 4 = .ok (.iconst 0, 1) := by decide +kernel
theorem dX2_depthOf_5 : decode cX2_depthOf 5 = .ok (.ireturn, 1) := by decide +kernel
theorem dX2_depthOf_6 : decode cX2_depthOf 6 = .ok (.iload_n 0, 1) := by decide +kernel
theorem dX2_depthOf_7 : decode cX2_depthOf 7 = .ok (.iconst 2, 1) := by decide +kernel
theorem dX2_depthOf_8 : decode cX2_depthOf 8 = .ok (.if_icmp .gt 5, 3) := by decide +kernel
theorem dX2_depthOf_11 : decode cX2_depthOf 11 = .ok (.iconst 1, 1) := by decide +kernel
theorem dX2_depthOf_12 : decode cX2_depthOf 12 = .ok (.ireturn, 1) := by decide +kernel
theorem dX2_depthOf_13 : decode cX2_depthOf 13 = .ok (.iload_n 0, 1) := by decide +kernel
theorem dX2_depthOf_14 : decode cX2_depthOf 14 = .ok (.bipush 6, 2) := by decide +kernel
theorem dX2_depthOf_16 : decode cX2_depthOf 16 = .ok (.if_icmp .gt 7, 3) := by decide +kernel
theorem dX2_depthOf_19 : decode cX2_depthOf 19 = .ok (.iconst 2, 1) := by decide +kernel
theorem dX2_depthOf_20 : decode cX2_depthOf 20 = .ok (.goto 4, 3) := by decide +kernel
theorem dX2_depthOf_23 : decode cX2_depthOf 23 = .ok (.iconst 3, 1) := by decide +kernel
theorem dX2_depthOf_24 : decode cX2_depthOf 24 = .ok (.ireturn, 1) := by decide +kernel
set_option maxRecDepth 20000 in
theorem ggX2_seekCut_X3_numberAt : GoodIn wsX2_seekCut wsX3_numberAt := goodIn_ca (goodIn_ca (goodIn_r _ [7, 8, 38, 39, 40, 41, 42] (by decide +kernel) (by decide +kernel)) (goodIn_sub (fun _ h => List.mem_cons_of_mem _ (List.mem_append_right _ h)) (by decide +kernel))) (goodIn_sub (fun _ h => List.mem_cons_of_mem _ (List.mem_append_left _ (List.mem_append_right _ h))) (by decide +kernel))
set_option maxRecDepth 20000 in
theorem gX2_seekCut_X3_numberAt : GoodIn wsX2_seekCut (wsV RX2 79 RX3 yX3_numberAt wsX3_numberAt) := goodIn_app (goodIn_of _ (by decide +kernel)) ggX2_seekCut_X3_numberAt
set_option maxRecDepth 20000 in
theorem ggX2_seekCut_X2_tryCut : GoodIn wsX2_seekCut wsX2_tryCut := goodIn_ca (goodIn_ca (goodIn_r _ [13, 1, 2, 14, 15, 16, 17, 18, 19, 20, 6, 21, 22, 4, 5, 7, 8, 23, 24, 25, 26, 27, 28, 29, 30, 31, 32, 33, 34, 35, 36, 37, 38, 39, 40, 41, 42, 43, 44, 45, 46, 47, 48, 49, 50, 51, 52, 53] (by decide +kernel) (by decide +kernel)) (goodIn_sub (fun _ h => List.mem_cons_of_mem _ (List.mem_append_left _ (List.mem_append_right _ h))) (by decide +kernel))) (goodIn_sub (fun _ h => List.mem_cons_of_mem _ (List.mem_append_right _ h)) (by decide +kernel))
set_option maxRecDepth 20000 in
theorem gX2_seekCut_X2_tryCut : GoodIn wsX2_seekCut (wsV RX2 82 RX2 yX2_tryCut wsX2_tryCut) := goodIn_app (goodIn_of _ (by decide +kernel)) ggX2_seekCut_X2_tryCut
theorem dX2_seekCut_0 : decode cX2_seekCut 0 = .ok (.iconst 0, 1) := by decide +kernel
theorem dX2_seekCut_1 : decode cX2_seekCut 1 = .ok (.istore 4, 2) := by decide +kernel
theorem dX2_seekCut_3 : decode cX2_seekCut 3 = .ok (.iload 4, 2) := by decide +kernel
theorem dX2_seekCut_5 : decode cX2_seekCut 5 = .ok (.iconst 4, 1) := by decide +kernel
theorem dX2_seekCut_6 : decode cX2_seekCut 6 = .ok (.if_icmp .ge 84, 3) := by decide +kernel
theorem dX2_seekCut_9 : decode cX2_seekCut 9 = .ok (.iconst 0, 1) := by decide +kernel
theorem dX2_seekCut_10 : decode cX2_seekCut 10 = .ok (.istore 5, 2) := by decide +kernel
theorem dX2_seekCut_12 : decode cX2_seekCut 12 = .ok (.iload 5, 2) := by decide +kernel
theorem dX2_seekCut_14 : decode cX2_seekCut 14 = .ok (.aload_n 1, 1) := by decide +kernel
theorem dX2_seekCut_15 : decode cX2_seekCut 15 = .ok (.getfield 25, 3) := by decide +kernel
theorem dX2_seekCut_18 : decode cX2_seekCut 18 = .ok (.if_icmp .ge 66, 3) := by decide +kernel
theorem dX2_seekCut_21 : decode cX2_seekCut 21 = .ok (.aload_n 1, 1) := by decide +kernel
theorem dX2_seekCut_22 : decode cX2_seekCut 22 = .ok (.iload 5, 2) := by decide +kernel
theorem dX2_seekCut_24 : decode cX2_seekCut 24 = .ok (.iload 4, 2) := by decide +kernel
theorem dX2_seekCut_26 : decode cX2_seekCut 26 = .ok (.invokevirtual 79, 3) := by decide +kernel
theorem dX2_seekCut_29 : decode cX2_seekCut 29 = .ok (.istore 6, 2) := by decide +kernel
theorem dX2_seekCut_31 : decode cX2_seekCut 31 = .ok (.aload_n 0, 1) := by decide +kernel
theorem dX2_seekCut_32 : decode cX2_seekCut 32 = .ok (.getfield 15, 3) := by decide +kernel
theorem dX2_seekCut_35 : decode cX2_seekCut 35 = .ok (.iload 5, 2) := by decide +kernel
theorem dX2_seekCut_37 : decode cX2_seekCut 37 = .ok (.iaload, 1) := by decide +kernel
theorem dX2_seekCut_38 : decode cX2_seekCut 38 = .ok (.iload_n 2, 1) := by decide +kernel
theorem dX2_seekCut_39 : decode cX2_seekCut 39 = .ok (.if_icmp .ne 39, 3) := by decide +kernel
theorem dX2_seekCut_42 : decode cX2_seekCut 42 = .ok (.iload 6, 2) := by decide +kernel
theorem dX2_seekCut_44 : decode cX2_seekCut 44 = .ok (.sipush (-1001), 3) := by decide +kernel
theorem dX2_seekCut_47 : decode cX2_seekCut 47 = .ok (.if_icmp .eq 31, 3) := by decide +kernel
theorem dX2_seekCut_50 : decode cX2_seekCut 50 = .ok (.iconst 0, 1) := by decide +kernel
theorem dX2_seekCut_51 : decode cX2_seekCut 51 = .ok (.istore 7, 2) := by decide +kernel
theorem dX2_seekCut_53 : decode cX2_seekCut 53 = .ok (.iload 7, 2) := by decide +kernel
theorem dX2_seekCut_55 : decode cX2_seekCut 55 = .ok (.iconst 2, 1) := by decide +kernel
theorem dX2_seekCut_56 : decode cX2_seekCut 56 = .ok (.if_icmp .ge 22, 3) := by decide +kernel
theorem dX2_seekCut_59 : decode cX2_seekCut 59 = .ok (.aload_n 0, 1) := by decide +kernel
theorem dX2_seekCut_60 : decode cX2_seekCut 60 = .ok (.aload_n 1, 1) := by decide +kernel
theorem dX2_seekCut_61 : decode cX2_seekCut 61 = .ok (.iload_n 2, 1) := by decide +kernel
theorem dX2_seekCut_62 : decode cX2_seekCut 62 = .ok (.iload 4, 2) := by decide +kernel
theorem dX2_seekCut_64 : decode cX2_seekCut 64 = .ok (.iload 6, 2) := by decide +kernel
theorem dX2_seekCut_66 : decode cX2_seekCut 66 = .ok (.iload 7, 2) := by decide +kernel
theorem dX2_seekCut_68 : decode cX2_seekCut 68 = .ok (.iload_n 3, 1) := by decide +kernel
theorem dX2_seekCut_69 : decode cX2_seekCut 69 = .ok (.invokevirtual 82, 3) := by decide +kernel
theorem dX2_seekCut_72 : decode cX2_seekCut 72 = .ok (.iinc 7 1, 3) := by decide +kernel
theorem dX2_seekCut_75 : decode cX2_seekCut 75 = .ok (.goto (-22), 3) := by decide +kernel
theorem dX2_seekCut_78 : decode cX2_seekCut 78 = .ok (.iinc 5 1, 3) := by decide +kernel
theorem dX2_seekCut_81 : decode cX2_seekCut 81 = .ok (.goto (-69), 3) := by decide +kernel
theorem dX2_seekCut_84 : decode cX2_seekCut 84 = .ok (.iinc 4 1, 3) := by decide +kernel
theorem dX2_seekCut_87 : decode cX2_seekCut 87 = .ok (.goto (-84), 3) := by decide +kernel
theorem dX2_seekCut_90 : decode cX2_seekCut 90 = .ok (.return_, 1) := by decide +kernel
set_option maxRecDepth 20000 in
theorem ggX2_tryCut_X3_goesLeft : GoodIn wsX2_tryCut wsX3_goesLeft := goodIn_ca (goodIn_ca (goodIn_r _ [11, 12, 13, 14, 10, 15, 16, 32, 33, 34, 35, 36] (by decide +kernel) (by decide +kernel)) (goodIn_sub (fun _ h => List.mem_cons_of_mem _ (List.mem_append_left _ (List.mem_append_right _ h))) (by decide +kernel))) (goodIn_sub (fun _ h => List.mem_cons_of_mem _ (List.mem_append_right _ h)) (by decide +kernel))
set_option maxRecDepth 20000 in
theorem gX2_tryCut_X3_goesLeft : GoodIn wsX2_tryCut (wsV RX2 86 RX3 yX3_goesLeft wsX3_goesLeft) := goodIn_app (goodIn_of _ (by decide +kernel)) ggX2_tryCut_X3_goesLeft
set_option maxRecDepth 20000 in
theorem ggX2_tryCut_X0_offer : GoodIn wsX2_tryCut wsX0_offer := goodIn_ca (goodIn_r _ [21, 22, 23, 24, 25, 26, 27, 28, 29, 30, 20, 31, 42, 43, 44, 45, 46, 47] (by decide +kernel) (by decide +kernel)) (goodIn_sub (fun _ h => List.mem_cons_of_mem _ (List.mem_append_left _ (List.mem_append_right _ h))) (by decide +kernel))
set_option maxRecDepth 20000 in
theorem gX2_tryCut_X0_offer : GoodIn wsX2_tryCut (wsV RX2 90 RX0 yX0_offer wsX0_offer) := goodIn_app (goodIn_of _ (by decide +kernel)) ggX2_tryCut_X0_offer
theorem dX2_tryCut_0 : decode cX2_tryCut 0 = .ok (.lconst 0, 1) := by decide +kernel
theorem dX2_tryCut_1 : decode cX2_tryCut 1 = .ok (.lstore 7, 2) := by decide +kernel
theorem dX2_tryCut_3 : decode cX2_tryCut 3 = .ok (.lconst 0, 1) := by decide +kernel
theorem dX2_tryCut_4 : decode cX2_tryCut 4 = .ok (.lstore 9, 2) := by decide +kernel
theorem dX2_tryCut_6 : decode cX2_tryCut 6 = .ok (.iconst 0, 1) := by decide +kernel
theorem dX2_tryCut_7 : decode cX2_tryCut 7 = .ok (.istore 11, 2) := by decide +kernel
theorem dX2_tryCut_9 : decode cX2_tryCut 9 = .ok (.iload 11, 2) := by decide +kernel
theorem dX2_tryCut_11 : decode cX2_tryCut 11 = .ok (.aload_n 1, 1) := by decide +kernel
theorem dX2_tryCut_12 : decode cX2_tryCut 12 = .ok (.getfield 25, 3) := by decide +kernel
theorem dX2_tryCut_15 : decode cX2_tryCut 15 = .ok (.if_icmp .ge 53, 3) := by decide +kernel
theorem dX2_tryCut_18 : decode cX2_tryCut 18 = .ok (.aload_n 0, 1) := by decide +kernel
theorem dX2_tryCut_19 : decode cX2_tryCut 19 = .ok (.getfield 15, 3) := by decide +kernel
theorem dX2_tryCut_22 : decode cX2_tryCut 22 = .ok (.iload 11, 2) := by decide +kernel
theorem dX2_tryCut_24 : decode cX2_tryCut 24 = .ok (.iaload, 1) := by decide +kernel
theorem dX2_tryCut_25 : decode cX2_tryCut 25 = .ok (.iload_n 2, 1) := by decide +kernel
theorem dX2_tryCut_26 : decode cX2_tryCut 26 = .ok (.if_icmp .ne 36, 3) := by decide +kernel
theorem dX2_tryCut_29 : decode cX2_tryCut 29 = .ok (.aload_n 1, 1) := by decide +kernel
theorem dX2_tryCut_30 : decode cX2_tryCut 30 = .ok (.iload 11, 2) := by decide +kernel
theorem dX2_tryCut_32 : decode cX2_tryCut 32 = .ok (.iload_n 3, 1) := by decide +kernel
theorem dX2_tryCut_33 : decode cX2_tryCut 33 = .ok (.iload 4, 2) := by decide +kernel
theorem dX2_tryCut_35 : decode cX2_tryCut 35 = .ok (.iload 5, 2) := by decide +kernel
theorem dX2_tryCut_37 : decode cX2_tryCut 37 = .ok (.invokevirtual 86, 3) := by decide +kernel
theorem dX2_tryCut_40 : decode cX2_tryCut 40 = .ok (.ifCond .eq 22, 3) := by decide +kernel
theorem dX2_tryCut_43 : decode cX2_tryCut 43 = .ok (.lload 7, 2) := by decide +kernel
theorem dX2_tryCut_45 : decode cX2_tryCut 45 = .ok (.lconst 1, 1) := by decide +kernel
theorem dX2_tryCut_46 : decode cX2_tryCut 46 = .ok (.ladd, 1) := by decide +kernel
theorem dX2_tryCut_47 : decode cX2_tryCut 47 = .ok (.lstore 7, 2) := by decide +kernel
theorem dX2_tryCut_49 : decode cX2_tryCut 49 = .ok (.lload 9, 2) := by decide +kernel
theorem dX2_tryCut_51 : decode cX2_tryCut 51 = .ok (.aload_n 0, 1) := by decide +kernel
theorem dX2_tryCut_52 : decode cX2_tryCut 52 = .ok (.getfield 9, 3) := by decide +kernel
theorem dX2_tryCut_55 : decode cX2_tryCut 55 = .ok (.iload 11, 2) := by decide +kernel
theorem dX2_tryCut_57 : decode cX2_tryCut 57 = .ok (.iaload, 1) := by decide +kernel
theorem dX2_tryCut_58 : decode cX2_tryCut 58 = .ok (.i2l, 1) := by decide +kernel
theorem dX2_tryCut_59 : decode cX2_tryCut 59 = .ok (.ladd, 1) := by decide +kernel
theorem dX2_tryCut_60 : decode cX2_tryCut 60 = .ok (.lstore 9, 2) := by decide +kernel
theorem dX2_tryCut_62 : decode cX2_tryCut 62 = .ok (.iinc 11 1, 3) := by decide +kernel
theorem dX2_tryCut_65 : decode cX2_tryCut 65 = .ok (.goto (-56), 3) := by decide +kernel
theorem dX2_tryCut_68 : decode cX2_tryCut 68 = .ok (.aload_n 0, 1) := by decide +kernel
theorem dX2_tryCut_69 : decode cX2_tryCut 69 = .ok (.getfield 39, 3) := by decide +kernel
theorem dX2_tryCut_72 : decode cX2_tryCut 72 = .ok (.i2l, 1) := by decide +kernel
theorem dX2_tryCut_73 : decode cX2_tryCut 73 = .ok (.lload 7, 2) := by decide +kernel
theorem dX2_tryCut_75 : decode cX2_tryCut 75 = .ok (.lsub, 1) := by decide +kernel
theorem dX2_tryCut_76 : decode cX2_tryCut 76 = .ok (.lstore 11, 2) := by decide +kernel
theorem dX2_tryCut_78 : decode cX2_tryCut 78 = .ok (.aload_n 0, 1) := by decide +kernel
theorem dX2_tryCut_79 : decode cX2_tryCut 79 = .ok (.getfield 46, 3) := by decide +kernel
theorem dX2_tryCut_82 : decode cX2_tryCut 82 = .ok (.i2l, 1) := by decide +kernel
theorem dX2_tryCut_83 : decode cX2_tryCut 83 = .ok (.lload 9, 2) := by decide +kernel
theorem dX2_tryCut_85 : decode cX2_tryCut 85 = .ok (.lsub, 1) := by decide +kernel
theorem dX2_tryCut_86 : decode cX2_tryCut 86 = .ok (.lstore 13, 2) := by decide +kernel
theorem dX2_tryCut_88 : decode cX2_tryCut 88 = .ok (.lload 9, 2) := by decide +kernel
theorem dX2_tryCut_90 : decode cX2_tryCut 90 = .ok (.lload 11, 2) := by decide +kernel
theorem dX2_tryCut_92 : decode cX2_tryCut 92 = .ok (.lmul, 1) := by decide +kernel
theorem dX2_tryCut_93 : decode cX2_tryCut 93 = .ok (.lload 13, 2) := by decide +kernel
theorem dX2_tryCut_95 : decode cX2_tryCut 95 = .ok (.lload 7, 2) := by decide +kernel
theorem dX2_tryCut_97 : decode cX2_tryCut 97 = .ok (.lmul, 1) := by decide +kernel
theorem dX2_tryCut_98 : decode cX2_tryCut 98 = .ok (.lsub, 1) := by decide +kernel
theorem dX2_tryCut_99 : decode cX2_tryCut 99 = .ok (.lstore 15, 2) := by decide +kernel
theorem dX2_tryCut_101 : decode cX2_tryCut 101 = .ok (.lload 7, 2) := by decide +kernel
theorem dX2_tryCut_103 : decode cX2_tryCut 103 = .ok (.iload 6, 2) := by decide +kernel
theorem dX2_tryCut_105 : decode cX2_tryCut 105 = .ok (.i2l, 1) := by decide +kernel
theorem dX2_tryCut_106 : decode cX2_tryCut 106 = .ok (.lcmp, 1) := by decide +kernel
theorem dX2_tryCut_107 : decode cX2_tryCut 107 = .ok (.ifCond .lt 47, 3) := by decide +kernel
theorem dX2_tryCut_110 : decode cX2_tryCut 110 = .ok (.lload 11, 2) := by decide +kernel
theorem dX2_tryCut_112 : decode cX2_tryCut 112 = .ok (.iload 6, 2) := by decide +kernel
theorem dX2_tryCut_114 : decode cX2_tryCut 114 = .ok (.i2l, 1) := by decide +kernel
theorem dX2_tryCut_115 : decode cX2_tryCut 115 = .ok (.lcmp, 1) := by decide +kernel
theorem dX2_tryCut_116 : decode cX2_tryCut 116 = .ok (.ifCond .lt 38, 3) := by decide +kernel
theorem dX2_tryCut_119 : decode cX2_tryCut 119 = .ok (.lload 15, 2) := by decide +kernel
theorem dX2_tryCut_121 : decode cX2_tryCut 121 = .ok (.lconst 0, 1) := by decide +kernel
theorem dX2_tryCut_122 : decode cX2_tryCut 122 = .ok (.lcmp, 1) := by decide +kernel
theorem dX2_tryCut_123 : decode cX2_tryCut 123 = .ok (.ifCond .eq 31, 3) := by decide +kernel
theorem dX2_tryCut_126 : decode cX2_tryCut 126 = .ok (.aload_n 0, 1) := by decide +kernel
theorem dX2_tryCut_127 : decode cX2_tryCut 127 = .ok (.getfield 21, 3) := by decide +kernel
theorem dX2_tryCut_130 : decode cX2_tryCut 130 = .ok (.iload_n 3, 1) := by decide +kernel
theorem dX2_tryCut_131 : decode cX2_tryCut 131 = .ok (.iload 4, 2) := by decide +kernel
theorem dX2_tryCut_133 : decode cX2_tryCut 133 = .ok (.iload 5, 2) := by decide +kernel
theorem dX2_tryCut_135 : decode cX2_tryCut 135 = .ok (.lload 15, 2) := by decide +kernel
theorem dX2_tryCut_137 : decode cX2_tryCut 137 = .ok (.lload 15, 2) := by decide +kernel
theorem dX2_tryCut_139 : decode cX2_tryCut 139 = .ok (.lmul, 1) := by decide +kernel
theorem dX2_tryCut_140 : decode cX2_tryCut 140 = .ok (.lload 7, 2) := by decide +kernel
theorem dX2_tryCut_142 : decode cX2_tryCut 142 = .ok (.lload 11, 2) := by decide +kernel
theorem dX2_tryCut_144 : decode cX2_tryCut 144 = .ok (.lmul, 1) := by decide +kernel
theorem dX2_tryCut_145 : decode cX2_tryCut 145 = .ok (.aload_n 0, 1) := by decide +kernel
theorem dX2_tryCut_146 : decode cX2_tryCut 146 = .ok (.getfield 39, 3) := by decide +kernel
theorem dX2_tryCut_149 : decode cX2_tryCut 149 = .ok (.i2l, 1) := by decide +kernel
theorem dX2_tryCut_150 : decode cX2_tryCut 150 = .ok (.lmul, 1) := by decide +kernel
theorem dX2_tryCut_151 : decode cX2_tryCut 151 = .ok (.invokevirtual 90, 3) := by decide +kernel
theorem dX2_tryCut_154 : decode cX2_tryCut 154 = .ok (.return_, 1) := by decide +kernel
set_option maxRecDepth 20000 in
theorem ggX2_part_X3_goesLeft : GoodIn wsX2_part wsX3_goesLeft := goodIn_ca (goodIn_ca (goodIn_r _ [11, 12, 13, 14, 10, 15, 16, 17, 18, 19, 20, 21] (by decide +kernel) (by decide +kernel)) (goodIn_sub (fun _ h => List.mem_cons_of_mem _ (List.mem_append_left _ (List.mem_append_right _ h))) (by decide +kernel))) (goodIn_sub (fun _ h => List.mem_cons_of_mem _ (List.mem_append_right _ h)) (by decide +kernel))
set_option maxRecDepth 20000 in
theorem gX2_part_X3_goesLeft : GoodIn wsX2_part (wsV RX2 86 RX3 yX3_goesLeft wsX3_goesLeft) := goodIn_app (goodIn_of _ (by decide +kernel)) ggX2_part_X3_goesLeft
theorem dX2_part_0 : decode cX2_part 0 = .ok (.iconst 0, 1) := by decide +kernel
theorem dX2_part_1 : decode cX2_part 1 = .ok (.istore_n 3, 1) := by decide +kernel
theorem dX2_part_2 : decode cX2_part 2 = .ok (.iload_n 3, 1) := by decide +kernel
theorem dX2_part_3 : decode cX2_part 3 = .ok (.aload_n 1, 1) := by decide +kernel
theorem dX2_part_4 : decode cX2_part 4 = .ok (.getfield 25, 3) := by decide +kernel
theorem dX2_part_7 : decode cX2_part 7 = .ok (.if_icmp .ge 71, 3) := by decide +kernel
theorem dX2_part_10 : decode cX2_part 10 = .ok (.aload_n 0, 1) := by decide +kernel
theorem dX2_part_11 : decode cX2_part 11 = .ok (.getfield 15, 3) := by decide +kernel
theorem dX2_part_14 : decode cX2_part 14 = .ok (.iload_n 3, 1) := by decide +kernel
theorem dX2_part_15 : decode cX2_part 15 = .ok (.iaload, 1) := by decide +kernel
theorem dX2_part_16 : decode cX2_part 16 = .ok (.iload_n 2, 1) := by decide +kernel
theorem dX2_part_17 : decode cX2_part 17 = .ok (.if_icmp .ne 55, 3) := by decide +kernel
theorem dX2_part_20 : decode cX2_part 20 = .ok (.aload_n 1, 1) := by decide +kernel
theorem dX2_part_21 : decode cX2_part 21 = .ok (.iload_n 3, 1) := by decide +kernel
theorem dX2_part_22 : decode cX2_part 22 = .ok (.aload_n 0, 1) := by decide +kernel
theorem dX2_part_23 : decode cX2_part 23 = .ok (.getfield 21, 3) := by decide +kernel
theorem dX2_part_26 : decode cX2_part 26 = .ok (.getfield 94, 3) := by decide +kernel
theorem dX2_part_29 : decode cX2_part 29 = .ok (.aload_n 0, 1) := by decide +kernel
theorem dX2_part_30 : decode cX2_part 30 = .ok (.getfield 21, 3) := by decide +kernel
theorem dX2_part_33 : decode cX2_part 33 = .ok (.getfield 97, 3) := by decide +kernel
theorem dX2_part_36 : decode cX2_part 36 = .ok (.aload_n 0, 1) := by decide +kernel
theorem dX2_part_37 : decode cX2_part 37 = .ok (.getfield 21, 3) := by decide +kernel
theorem dX2_part_40 : decode cX2_part 40 = .ok (.getfield 100, 3) := by decide +kernel
theorem dX2_part_43 : decode cX2_part 43 = .ok (.invokevirtual 86, 3) := by decide +kernel
theorem dX2_part_46 : decode cX2_part 46 = .ok (.istore 4, 2) := by decide +kernel
theorem dX2_part_48 : decode cX2_part 48 = .ok (.aload_n 0, 1) := by decide +kernel
theorem dX2_part_49 : decode cX2_part 49 = .ok (.getfield 15, 3) := by decide +kernel
theorem dX2_part_52 : decode cX2_part 52 = .ok (.iload_n 3, 1) := by decide +kernel
theorem dX2_part_53 : decode cX2_part 53 = .ok (.iload 4, 2) := by decide +kernel
theorem dX2_part_55 : decode cX2_part 55 = .ok (.ifCond .eq 11, 3) := by decide +kernel
theorem dX2_part_58 : decode cX2_part 58 = .ok (.iconst 2, 1) := by decide +kernel
theorem dX2_part_59 : decode cX2_part 59 = .ok (.iload_n 2, 1) := by decide +kernel
theorem dX2_part_60 : decode cX2_part 60 = .ok (.imul, 1) := by decide +kernel
theorem dX2_part_61 : decode cX2_part 61 = .ok (.iconst 1, 1) := by decide +kernel
theorem dX2_part_62 : decode cX2_part 62 = .ok (.iadd, 1) := by decide +kernel
theorem dX2_part_63 : decode cX2_part 63 = .ok (.goto 8, 3) := by decide +kernel
theorem dX2_part_66 : decode cX2_part 66 = .ok (.iconst 2, 1) := by decide +kernel
theorem dX2_part_67 : decode cX2_part 67 = .ok (.iload_n 2, 1) := by decide +kernel
theorem dX2_part_68 : decode cX2_part 68 = .ok (.imul, 1) := by decide +kernel
theorem dX2_part_69 : decode cX2_part 69 = .ok (.iconst 2, 1) := by decide +kernel
theorem dX2_part_70 : decode cX2_part 70 = .ok (.iadd, 1) := by decide +kernel
theorem dX2_part_71 : decode cX2_part 71 = .ok (.iastore, 1) := by decide +kernel
theorem dX2_part_72 : decode cX2_part 72 = .ok (.iinc 3 1, 3) := by decide +kernel
theorem dX2_part_75 : decode cX2_part 75 = .ok (.goto (-73), 3) := by decide +kernel
theorem dX2_part_78 : decode cX2_part 78 = .ok (.return_, 1) := by decide +kernel
theorem dX3_init_0 : decode cX3_init 0 = .ok (.aload_n 0, 1) := by decide +kernel
theorem dX3_init_1 : decode cX3_init 1 = .ok (.invokespecial 3, 3) := by decide +kernel
theorem dX3_init_4 : decode cX3_init 4 = .ok (.aload_n 0, 1) := by decide +kernel
theorem dX3_init_5 : decode cX3_init 5 = .ok (.bipush 24, 2) := by decide +kernel
theorem dX3_init_7 : decode cX3_init 7 = .ok (.newarray .int, 2) := by decide +kernel
theorem dX3_init_9 : decode cX3_init 9 = .ok (.putfield 9, 3) := by decide +kernel
theorem dX3_init_12 : decode cX3_init 12 = .ok (.aload_n 0, 1) := by decide +kernel
theorem dX3_init_13 : decode cX3_init 13 = .ok (.bipush 24, 2) := by decide +kernel
theorem dX3_init_15 : decode cX3_init 15 = .ok (.newarray .int, 2) := by decide +kernel
theorem dX3_init_17 : decode cX3_init 17 = .ok (.putfield 15, 3) := by decide +kernel
theorem dX3_init_20 : decode cX3_init 20 = .ok (.aload_n 0, 1) := by decide +kernel
theorem dX3_init_21 : decode cX3_init 21 = .ok (.bipush 100, 2) := by decide +kernel
theorem dX3_init_23 : decode cX3_init 23 = .ok (.newarray .int, 2) := by decide +kernel
theorem dX3_init_25 : decode cX3_init 25 = .ok (.putfield 18, 3) := by decide +kernel
theorem dX3_init_28 : decode cX3_init 28 = .ok (.aload_n 0, 1) := by decide +kernel
theorem dX3_init_29 : decode cX3_init 29 = .ok (.bipush 24, 2) := by decide +kernel
theorem dX3_init_31 : decode cX3_init 31 = .ok (.newarray .long, 2) := by decide +kernel
theorem dX3_init_33 : decode cX3_init 33 = .ok (.putfield 21, 3) := by decide +kernel
theorem dX3_init_36 : decode cX3_init 36 = .ok (.return_, 1) := by decide +kernel
theorem dX3_has_0 : decode cX3_has 0 = .ok (.iload_n 1, 1) := by decide +kernel
theorem dX3_has_1 : decode cX3_has 1 = .ok (.ifCond .lt 15, 3) := by decide +kernel
theorem dX3_has_4 : decode cX3_has 4 = .ok (.iload_n 1, 1) := by decide +kernel
theorem dX3_has_5 : decode cX3_has 5 = .ok (.aload_n 0, 1) := by decide +kernel
theorem dX3_has_6 : decode cX3_has 6 = .ok (.getfield 25, 3) := by decide +kernel
theorem dX3_has_9 : decode cX3_has 9 = .ok (.if_icmp .ge 7, 3) := by decide +kernel
theorem dX3_has_12 : decode cX3_has 12 = .ok (.iconst 1, 1) := by decide +kernel
theorem dX3_has_13 : decode cX3_has 13 = .ok (.goto 4, 3) := by decide +kernel
theorem dX3_has_16 : decode cX3_has 16 = .ok (.iconst 0, 1) := by decide +kernel
theorem dX3_has_17 : decode cX3_has 17 = .ok (.ireturn, 1) := by decide +kernel
set_option maxRecDepth 20000 in
theorem ggX3_rowOf_X3_has : GoodIn wsX3_rowOf wsX3_has := goodIn_r _ [5, 6, 7, 8, 9, 10, 11] (by decide +kernel) (by decide +kernel)
set_option maxRecDepth 20000 in
theorem gX3_rowOf_X3_has : GoodIn wsX3_rowOf (wsV RX3 29 RX3 yX3_has wsX3_has) := goodIn_app (goodIn_of _ (by decide +kernel)) ggX3_rowOf_X3_has
theorem dX3_rowOf_0 : decode cX3_rowOf 0 = .ok (.iload_n 1, 1) := by decide +kernel
theorem dX3_rowOf_1 : decode cX3_rowOf 1 = .ok (.iconst (-1), 1) := by decide +kernel
theorem dX3_rowOf_2 : decode cX3_rowOf 2 = .ok (.if_icmp .ne 6, 3) := by decide +kernel
theorem dX3_rowOf_5 : decode cX3_rowOf 5 = .ok (.bipush 24, 2) := by decide +kernel
theorem dX3_rowOf_7 : decode cX3_rowOf 7 = .ok (.ireturn, 1) := by decide +kernel
theorem dX3_rowOf_8 : decode cX3_rowOf 8 = .ok (.aload_n 0, 1) := by decide +kernel
theorem dX3_rowOf_9 : decode cX3_rowOf 9 = .ok (.iload_n 1, 1) := by decide +kernel
theorem dX3_rowOf_10 : decode cX3_rowOf 10 = .ok (.invokevirtual 29, 3) := by decide +kernel
theorem dX3_rowOf_13 : decode cX3_rowOf 13 = .ok (.ifCond .eq 7, 3) := by decide +kernel
theorem dX3_rowOf_16 : decode cX3_rowOf 16 = .ok (.iload_n 1, 1) := by decide +kernel
theorem dX3_rowOf_17 : decode cX3_rowOf 17 = .ok (.goto 4, 3) := by decide +kernel
theorem dX3_rowOf_20 : decode cX3_rowOf 20 = .ok (.iconst (-1), 1) := by decide +kernel
theorem dX3_rowOf_21 : decode cX3_rowOf 21 = .ok (.ireturn, 1) := by decide +kernel
set_option maxRecDepth 20000 in
theorem ggX3_take_X3_forgetRow : GoodIn wsX3_take wsX3_forgetRow := goodIn_r _ [8, 9, 10, 11, 12, 13, 14, 15, 16, 17, 18, 19, 20, 21, 22, 23, 24, 25, 26, 27, 28, 29, 30] (by decide +kernel) (by decide +kernel)
set_option maxRecDepth 20000 in
theorem gX3_take_X3_forgetRow : GoodIn wsX3_take (wsV RX3 33 RX3 yX3_forgetRow wsX3_forgetRow) := goodIn_app (goodIn_of _ (by decide +kernel)) ggX3_take_X3_forgetRow
theorem dX3_take_0 : decode cX3_take 0 = .ok (.aload_n 0, 1) := by decide +kernel
theorem dX3_take_1 : decode cX3_take 1 = .ok (.getfield 25, 3) := by decide +kernel
theorem dX3_take_4 : decode cX3_take 4 = .ok (.istore_n 3, 1) := by decide +kernel
theorem dX3_take_5 : decode cX3_take 5 = .ok (.aload_n 0, 1) := by decide +kernel
theorem dX3_take_6 : decode cX3_take 6 = .ok (.getfield 9, 3) := by decide +kernel
theorem dX3_take_9 : decode cX3_take 9 = .ok (.iload_n 3, 1) := by decide +kernel
theorem dX3_take_10 : decode cX3_take 10 = .ok (.iload_n 1, 1) := by decide +kernel
theorem dX3_take_11 : decode cX3_take 11 = .ok (.iastore, 1) := by decide +kernel
theorem dX3_take_12 : decode cX3_take 12 = .ok (.aload_n 0, 1) := by decide +kernel
theorem dX3_take_13 : decode cX3_take 13 = .ok (.getfield 15, 3) := by decide +kernel
theorem dX3_take_16 : decode cX3_take 16 = .ok (.iload_n 3, 1) := by decide +kernel
theorem dX3_take_17 : decode cX3_take 17 = .ok (.iload_n 2, 1) := by decide +kernel
theorem dX3_take_18 : decode cX3_take 18 = .ok (.iastore, 1) := by decide +kernel
theorem dX3_take_19 : decode cX3_take 19 = .ok (.aload_n 0, 1) := by decide +kernel
theorem dX3_take_20 : decode cX3_take 20 = .ok (.iload_n 3, 1) := by decide +kernel
theorem dX3_take_21 : decode cX3_take 21 = .ok (.invokevirtual 33, 3) := by decide +kernel
theorem dX3_take_24 : decode cX3_take 24 = .ok (.aload_n 0, 1) := by decide +kernel
theorem dX3_take_25 : decode cX3_take 25 = .ok (.dup, 1) := by decide +kernel
theorem dX3_take_26 : decode cX3_take 26 = .ok (.getfield 25, 3) := by decide +kernel
theorem dX3_take_29 : decode cX3_take 29 = .ok (.iconst 1, 1) := by decide +kernel
theorem dX3_take_30 : decode cX3_take 30 = .ok (.iadd, 1) := by decide +kernel
theorem dX3_take_31 : decode cX3_take 31 = .ok (.putfield 25, 3) := by decide +kernel
theorem dX3_take_34 : decode cX3_take 34 = .ok (.iload_n 3, 1) := by decide +kernel
theorem dX3_take_35 : decode cX3_take 35 = .ok (.ireturn, 1) := by decide +kernel
set_option maxRecDepth 20000 in
theorem ggX3_forgetRow_J7_fill_fda19 : GoodIn wsX3_forgetRow wsJ7_fill_fda19 := goodIn_r _ [5, 6, 7, 4, 8, 9, 10, 11, 17, 18, 19, 20, 21, 22] (by decide +kernel) (by decide +kernel)
set_option maxRecDepth 20000 in
theorem gX3_forgetRow_J7_fill_fda19 : GoodIn wsX3_forgetRow (va_wsS RX3 37 yJ7_fill_fda19 wsJ7_fill_fda19) := goodIn_app (goodIn_of _ (by decide +kernel)) ggX3_forgetRow_J7_fill_fda19
theorem dX3_forgetRow_0 : decode cX3_forgetRow 0 = .ok (.aload_n 0, 1) := by decide +kernel
theorem dX3_forgetRow_1 : decode cX3_forgetRow 1 = .ok (.getfield 18, 3) := by decide +kernel
theorem dX3_forgetRow_4 : decode cX3_forgetRow 4 = .ok (.iload_n 1, 1) := by decide +kernel
theorem dX3_forgetRow_5 : decode cX3_forgetRow 5 = .ok (.iconst 4, 1) := by decide +kernel
theorem dX3_forgetRow_6 : decode cX3_forgetRow 6 = .ok (.imul, 1) := by decide +kernel
theorem dX3_forgetRow_7 : decode cX3_forgetRow 7 = .ok (.iload_n 1, 1) := by decide +kernel
theorem dX3_forgetRow_8 : decode cX3_forgetRow 8 = .ok (.iconst 1, 1) := by decide +kernel
theorem dX3_forgetRow_9 : decode cX3_forgetRow 9 = .ok (.iadd, 1) := by decide +kernel
theorem dX3_forgetRow_10 : decode cX3_forgetRow 10 = .ok (.iconst 4, 1) := by decide +kernel
theorem dX3_forgetRow_11 : decode cX3_forgetRow 11 = .ok (.imul, 1) := by decide +kernel
theorem dX3_forgetRow_12 : decode cX3_forgetRow 12 = .ok (.sipush (-1001), 3) := by decide +kernel
theorem dX3_forgetRow_15 : decode cX3_forgetRow 15 = .ok (.invokestatic 37, 3) := by decide +kernel
theorem dX3_forgetRow_18 : decode cX3_forgetRow 18 = .ok (.return_, 1) := by decide +kernel
theorem dX3_numberAt_0 : decode cX3_numberAt 0 = .ok (.aload_n 0, 1) := by decide +kernel
theorem dX3_numberAt_1 : decode cX3_numberAt 1 = .ok (.getfield 18, 3) := by decide +kernel
theorem dX3_numberAt_4 : decode cX3_numberAt 4 = .ok (.iload_n 1, 1) := by decide +kernel
theorem dX3_numberAt_5 : decode cX3_numberAt 5 = .ok (.iconst 4, 1) := by decide +kernel
theorem dX3_numberAt_6 : decode cX3_numberAt 6 = .ok (.imul, 1) := by decide +kernel
theorem dX3_numberAt_7 : decode cX3_numberAt 7 = .ok (.iload_n 2, 1) := by decide +kernel
theorem dX3_numberAt_8 : decode cX3_numberAt 8 = .ok (.iadd, 1) := by decide +kernel
theorem dX3_numberAt_9 : decode cX3_numberAt 9 = .ok (.iaload, 1) := by decide +kernel
theorem dX3_numberAt_10 : decode cX3_numberAt 10 = .ok (.ireturn, 1) := by decide +kernel
theorem dX3_replace_0 : decode cX3_replace 0 = .ok (.aload_n 0, 1) := by decide +kernel
theorem dX3_replace_1 : decode cX3_replace 1 = .ok (.getfield 18, 3) := by decide +kernel
theorem dX3_replace_4 : decode cX3_replace 4 = .ok (.iload_n 1, 1) := by decide +kernel
theorem dX3_replace_5 : decode cX3_replace 5 = .ok (.iconst 4, 1) := by decide +kernel
theorem dX3_replace_6 : decode cX3_replace 6 = .ok (.imul, 1) := by decide +kernel
theorem dX3_replace_7 : decode cX3_replace 7 = .ok (.iload_n 2, 1) := by decide +kernel
theorem dX3_replace_8 : decode cX3_replace 8 = .ok (.iadd, 1) := by decide +kernel
theorem dX3_replace_9 : decode cX3_replace 9 = .ok (.iaload, 1) := by decide +kernel
theorem dX3_replace_10 : decode cX3_replace 10 = .ok (.istore 4, 2) := by decide +kernel
theorem dX3_replace_12 : decode cX3_replace 12 = .ok (.aload_n 0, 1) := by decide +kernel
theorem dX3_replace_13 : decode cX3_replace 13 = .ok (.getfield 18, 3) := by decide +kernel
theorem dX3_replace_16 : decode cX3_replace 16 = .ok (.iload_n 1, 1) := by decide +kernel
theorem dX3_replace_17 : decode cX3_replace 17 = .ok (.iconst 4, 1) := by decide +kernel
theorem dX3_replace_18 : decode cX3_replace 18 = .ok (.imul, 1) := by decide +kernel
theorem dX3_replace_19 : decode cX3_replace 19 = .ok (.iload_n 2, 1) := by decide +kernel
theorem dX3_replace_20 : decode cX3_replace 20 = .ok (.iadd, 1) := by decide +kernel
theorem dX3_replace_21 : decode cX3_replace 21 = .ok (.iload_n 3, 1) := by decide +kernel
theorem dX3_replace_22 : decode cX3_replace 22 = .ok (.iastore, 1) := by decide +kernel
theorem dX3_replace_23 : decode cX3_replace 23 = .ok (.iload 4, 2) := by decide +kernel
theorem dX3_replace_25 : decode cX3_replace 25 = .ok (.ireturn, 1) := by decide +kernel
set_option maxRecDepth 20000 in
theorem ggX3_goesLeft_X3_numberAt : GoodIn wsX3_goesLeft wsX3_numberAt := goodIn_ca (goodIn_ca (goodIn_r _ [5, 6, 7, 8, 9, 10, 11] (by decide +kernel) (by decide +kernel)) (goodIn_sub (fun _ h => List.mem_cons_of_mem _ (List.mem_append_right _ h)) (by decide +kernel))) (goodIn_sub (fun _ h => List.mem_cons_of_mem _ (List.mem_append_left _ (List.mem_append_right _ h))) (by decide +kernel))
set_option maxRecDepth 20000 in
theorem gX3_goesLeft_X3_numberAt : GoodIn wsX3_goesLeft (wsV RX3 43 RX3 yX3_numberAt wsX3_numberAt) := goodIn_app (goodIn_of _ (by decide +kernel)) ggX3_goesLeft_X3_numberAt
theorem dX3_goesLeft_0 : decode cX3_goesLeft 0 = .ok (.aload_n 0, 1) := by decide +kernel
theorem dX3_goesLeft_1 : decode cX3_goesLeft 1 = .ok (.iload_n 1, 1) := by decide +kernel
theorem dX3_goesLeft_2 : decode cX3_goesLeft 2 = .ok (.iload_n 2, 1) := by decide +kernel
theorem dX3_goesLeft_3 : decode cX3_goesLeft 3 = .ok (.invokevirtual 43, 3) := by decide +kernel
theorem dX3_goesLeft_6 : decode cX3_goesLeft 6 = .ok (.istore 5, 2) := by decide +kernel
theorem dX3_goesLeft_8 : decode cX3_goesLeft 8 = .ok (.iload 5, 2) := by decide +kernel
theorem dX3_goesLeft_10 : decode cX3_goesLeft 10 = .ok (.sipush (-1001), 3) := by decide +kernel
theorem dX3_goesLeft_13 : decode cX3_goesLeft 13 = .ok (.if_icmp .ne 16, 3) := by decide +kernel
theorem dX3_goesLeft_16 : decode cX3_goesLeft 16 = .ok (.iload 4, 2) := by decide +kernel
theorem dX3_goesLeft_18 : decode cX3_goesLeft 18 = .ok (.ifCond .ne 7, 3) := by decide +kernel
theorem dX3_goesLeft_21 : decode cX3_goesLeft 21 = .ok (.iconst 1, 1) := by decide +kernel
theorem dX3_goesLeft_22 : decode cX3_goesLeft 22 = .ok (.goto 18, 3) := by decide +kernel
theorem dX3_goesLeft_25 : decode cX3_goesLeft 25 = .ok (.iconst 0, 1) := by decide +kernel
theorem dX3_goesLeft_26 : decode cX3_goesLeft 26 = .ok (.goto 14, 3) := by decide +kernel
theorem dX3_goesLeft_29 : decode cX3_goesLeft 29 = .ok (.iload 5, 2) := by decide +kernel
theorem dX3_goesLeft_31 : decode cX3_goesLeft 31 = .ok (.iload_n 3, 1) := by decide +kernel
theorem dX3_goesLeft_32 : decode cX3_goesLeft 32 = .ok (.if_icmp .gt 7, 3) := by decide +kernel
theorem dX3_goesLeft_35 : decode cX3_goesLeft 35 = .ok (.iconst 1, 1) := by decide +kernel
theorem dX3_goesLeft_36 : decode cX3_goesLeft 36 = .ok (.goto 4, 3) := by decide +kernel
theorem dX3_goesLeft_39 : decode cX3_goesLeft 39 = .ok (.iconst 0, 1) := by decide +kernel
theorem dX3_goesLeft_40 : decode cX3_goesLeft 40 = .ok (.ireturn, 1) := by decide +kernel
set_option maxRecDepth 20000 in
theorem ggX3_takeScores_X1_sumFor : GoodIn wsX3_takeScores wsX1_sumFor := goodIn_ca (goodIn_ca (goodIn_r _ [7, 8, 9, 10, 11, 6, 12, 13, 14, 15, 16, 17, 18, 19, 20, 21, 22, 23, 24, 25, 26, 27, 33, 34, 35, 36, 37, 38, 39, 40, 41, 28, 29, 30, 31, 32] (by decide +kernel) (by decide +kernel)) (goodIn_sub (fun _ h => List.mem_cons_of_mem _ (List.mem_append_left _ (List.mem_append_right _ h))) (by decide +kernel))) (goodIn_sub (fun _ h => List.mem_cons_of_mem _ (List.mem_append_right _ h)) (by decide +kernel))
set_option maxRecDepth 20000 in
theorem gX3_takeScores_X1_sumFor : GoodIn wsX3_takeScores (wsV RX3 47 RX1 yX1_sumFor wsX1_sumFor) := goodIn_app (goodIn_of _ (by decide +kernel)) ggX3_takeScores_X1_sumFor
theorem dX3_takeScores_0 : decode cX3_takeScores 0 = .ok (.iconst 0, 1) := by decide +kernel
theorem dX3_takeScores_1 : decode cX3_takeScores 1 = .ok (.istore_n 2, 1) := by decide +kernel
theorem dX3_takeScores_2 : decode cX3_takeScores 2 = .ok (.iload_n 2, 1) := by decide +kernel
theorem dX3_takeScores_3 : decode cX3_takeScores 3 = .ok (.aload_n 0, 1) := by decide +kernel
theorem dX3_takeScores_4 : decode cX3_takeScores 4 = .ok (.getfield 25, 3) := by decide +kernel
theorem dX3_takeScores_7 : decode cX3_takeScores 7 = .ok (.if_icmp .ge 21, 3) := by decide +kernel
theorem dX3_takeScores_10 : decode cX3_takeScores 10 = .ok (.aload_n 0, 1) := by decide +kernel
theorem dX3_takeScores_11 : decode cX3_takeScores 11 = .ok (.getfield 21, 3) := by decide +kernel
theorem dX3_takeScores_14 : decode cX3_takeScores 14 = .ok (.iload_n 2, 1) := by decide +kernel
theorem dX3_takeScores_15 : decode cX3_takeScores 15 = .ok (.aload_n 1, 1) := by decide +kernel
theorem dX3_takeScores_16 : decode cX3_takeScores 16 = .ok (.aload_n 0, 1) := by decide +kernel
theorem dX3_takeScores_17 : decode cX3_takeScores 17 = .ok (.iload_n 2, 1) := by decide +kernel
theorem dX3_takeScores_18 : decode cX3_takeScores 18 = .ok (.invokevirtual 47, 3) := by decide +kernel
theorem dX3_takeScores_21 : decode cX3_takeScores 21 = .ok (.lastore, 1) := by decide +kernel
theorem dX3_takeScores_22 : decode cX3_takeScores 22 = .ok (.iinc 2 1, 3) := by decide +kernel
theorem dX3_takeScores_25 : decode cX3_takeScores 25 = .ok (.goto (-23), 3) := by decide +kernel
theorem dX3_takeScores_28 : decode cX3_takeScores 28 = .ok (.return_, 1) := by decide +kernel
theorem dX3_arePair_0 : decode cX3_arePair 0 = .ok (.aload_n 0, 1) := by decide +kernel
theorem dX3_arePair_1 : decode cX3_arePair 1 = .ok (.getfield 9, 3) := by decide +kernel
theorem dX3_arePair_4 : decode cX3_arePair 4 = .ok (.iload_n 1, 1) := by decide +kernel
theorem dX3_arePair_5 : decode cX3_arePair 5 = .ok (.iaload, 1) := by decide +kernel
theorem dX3_arePair_6 : decode cX3_arePair 6 = .ok (.aload_n 0, 1) := by decide +kernel
theorem dX3_arePair_7 : decode cX3_arePair 7 = .ok (.getfield 9, 3) := by decide +kernel
theorem dX3_arePair_10 : decode cX3_arePair 10 = .ok (.iload_n 2, 1) := by decide +kernel
theorem dX3_arePair_11 : decode cX3_arePair 11 = .ok (.iaload, 1) := by decide +kernel
theorem dX3_arePair_12 : decode cX3_arePair 12 = .ok (.if_icmp .ne 22, 3) := by decide +kernel
theorem dX3_arePair_15 : decode cX3_arePair 15 = .ok (.aload_n 0, 1) := by decide +kernel
theorem dX3_arePair_16 : decode cX3_arePair 16 = .ok (.getfield 15, 3) := by decide +kernel
theorem dX3_arePair_19 : decode cX3_arePair 19 = .ok (.iload_n 1, 1) := by decide +kernel
theorem dX3_arePair_20 : decode cX3_arePair 20 = .ok (.iaload, 1) := by decide +kernel
theorem dX3_arePair_21 : decode cX3_arePair 21 = .ok (.aload_n 0, 1) := by decide +kernel
theorem dX3_arePair_22 : decode cX3_arePair 22 = .ok (.getfield 15, 3) := by decide +kernel
theorem dX3_arePair_25 : decode cX3_arePair 25 = .ok (.iload_n 2, 1) := by decide +kernel
theorem dX3_arePair_26 : decode cX3_arePair 26 = .ok (.iaload, 1) := by decide +kernel
theorem dX3_arePair_27 : decode cX3_arePair 27 = .ok (.if_icmp .le 7, 3) := by decide +kernel
theorem dX3_arePair_30 : decode cX3_arePair 30 = .ok (.iconst 1, 1) := by decide +kernel
theorem dX3_arePair_31 : decode cX3_arePair 31 = .ok (.goto 4, 3) := by decide +kernel
theorem dX3_arePair_34 : decode cX3_arePair 34 = .ok (.iconst 0, 1) := by decide +kernel
theorem dX3_arePair_35 : decode cX3_arePair 35 = .ok (.ireturn, 1) := by decide +kernel
set_option maxRecDepth 20000 in
theorem ggX3_pushOf_X3_pushOfPair : GoodIn wsX3_pushOf wsX3_pushOfPair := goodIn_ca (goodIn_ca (goodIn_r _ [6, 7, 8, 9, 10, 11, 5, 12, 13, 14, 15, 16, 17, 18] (by decide +kernel) (by decide +kernel)) (goodIn_sub (fun _ h => List.mem_cons_of_mem _ (List.mem_append_left _ (List.mem_append_right _ h))) (by decide +kernel))) (goodIn_sub (fun _ h => List.mem_cons_of_mem _ (List.mem_append_right _ h)) (by decide +kernel))
set_option maxRecDepth 20000 in
theorem gX3_pushOf_X3_pushOfPair : GoodIn wsX3_pushOf (wsV RX3 53 RX3 yX3_pushOfPair wsX3_pushOfPair) := goodIn_app (goodIn_of _ (by decide +kernel)) ggX3_pushOf_X3_pushOfPair
theorem dX3_pushOf_0 : decode cX3_pushOf 0 = .ok (.iconst 0, 1) := by decide +kernel
theorem dX3_pushOf_1 : decode cX3_pushOf 1 = .ok (.istore_n 3, 1) := by decide +kernel
theorem dX3_pushOf_2 : decode cX3_pushOf 2 = .ok (.iconst 0, 1) := by decide +kernel
theorem dX3_pushOf_3 : decode cX3_pushOf 3 = .ok (.istore 4, 2) := by decide +kernel
theorem dX3_pushOf_5 : decode cX3_pushOf 5 = .ok (.iload 4, 2) := by decide +kernel
theorem dX3_pushOf_7 : decode cX3_pushOf 7 = .ok (.aload_n 0, 1) := by decide +kernel
theorem dX3_pushOf_8 : decode cX3_pushOf 8 = .ok (.getfield 25, 3) := by decide +kernel
theorem dX3_pushOf_11 : decode cX3_pushOf 11 = .ok (.if_icmp .ge 29, 3) := by decide +kernel
theorem dX3_pushOf_14 : decode cX3_pushOf 14 = .ok (.iload_n 3, 1) := by decide +kernel
theorem dX3_pushOf_15 : decode cX3_pushOf 15 = .ok (.aload_n 0, 1) := by decide +kernel
theorem dX3_pushOf_16 : decode cX3_pushOf 16 = .ok (.iload_n 1, 1) := by decide +kernel
theorem dX3_pushOf_17 : decode cX3_pushOf 17 = .ok (.iload 4, 2) := by decide +kernel
theorem dX3_pushOf_19 : decode cX3_pushOf 19 = .ok (.iload_n 2, 1) := by decide +kernel
theorem dX3_pushOf_20 : decode cX3_pushOf 20 = .ok (.invokevirtual 53, 3) := by decide +kernel
theorem dX3_pushOf_23 : decode cX3_pushOf 23 = .ok (.aload_n 0, 1) := by decide +kernel
theorem dX3_pushOf_24 : decode cX3_pushOf 24 = .ok (.iload 4, 2) := by decide +kernel
theorem dX3_pushOf_26 : decode cX3_pushOf 26 = .ok (.iload_n 1, 1) := by decide +kernel
theorem dX3_pushOf_27 : decode cX3_pushOf 27 = .ok (.iload_n 2, 1) := by decide +kernel
theorem dX3_pushOf_28 : decode cX3_pushOf 28 = .ok (.invokevirtual 53, 3) := by decide +kernel
theorem dX3_pushOf_31 : decode cX3_pushOf 31 = .ok (.isub, 1) := by decide +kernel
theorem dX3_pushOf_32 : decode cX3_pushOf 32 = .ok (.iadd, 1) := by decide +kernel
theorem dX3_pushOf_33 : decode cX3_pushOf 33 = .ok (.istore_n 3, 1) := by decide +kernel
theorem dX3_pushOf_34 : decode cX3_pushOf 34 = .ok (.iinc 4 1, 3) := by decide +kernel
theorem dX3_pushOf_37 : decode cX3_pushOf 37 = .ok (.goto (-32), 3) := by decide +kernel
theorem dX3_pushOf_40 : decode cX3_pushOf 40 = .ok (.iload_n 3, 1) := by decide +kernel
theorem dX3_pushOf_41 : decode cX3_pushOf 41 = .ok (.ireturn, 1) := by decide +kernel
set_option maxRecDepth 20000 in
theorem ggX3_pushOfPair_X3_arePair : GoodIn wsX3_pushOfPair wsX3_arePair := goodIn_ca (goodIn_ca (goodIn_r _ [7, 8, 2, 9, 10, 11, 12, 13] (by decide +kernel) (by decide +kernel)) (goodIn_sub (fun _ h => List.mem_cons_of_mem _ (List.mem_append_right _ h)) (by decide +kernel))) (goodIn_sub (fun _ h => List.mem_cons_of_mem _ (List.mem_append_left _ (List.mem_append_right _ h))) (by decide +kernel))
set_option maxRecDepth 20000 in
theorem gX3_pushOfPair_X3_arePair : GoodIn wsX3_pushOfPair (wsV RX3 57 RX3 yX3_arePair wsX3_arePair) := goodIn_app (goodIn_of _ (by decide +kernel)) ggX3_pushOfPair_X3_arePair
theorem dX3_pushOfPair_0 : decode cX3_pushOfPair 0 = .ok (.aload_n 0, 1) := by decide +kernel
theorem dX3_pushOfPair_1 : decode cX3_pushOfPair 1 = .ok (.iload_n 1, 1) := by decide +kernel
theorem dX3_pushOfPair_2 : decode cX3_pushOfPair 2 = .ok (.iload_n 2, 1) := by decide +kernel
theorem dX3_pushOfPair_3 : decode cX3_pushOfPair 3 = .ok (.invokevirtual 57, 3) := by decide +kernel
theorem dX3_pushOfPair_6 : decode cX3_pushOfPair 6 = .ok (.ifCond .eq 22, 3) := by decide +kernel
theorem dX3_pushOfPair_9 : decode cX3_pushOfPair 9 = .ok (.aload_n 0, 1) := by decide +kernel
theorem dX3_pushOfPair_10 : decode cX3_pushOfPair 10 = .ok (.getfield 21, 3) := by decide +kernel
theorem dX3_pushOfPair_13 : decode cX3_pushOfPair 13 = .ok (.iload_n 1, 1) := by decide +kernel
theorem dX3_pushOfPair_14 : decode cX3_pushOfPair 14 = .ok (.laload, 1) := by decide +kernel
theorem dX3_pushOfPair_15 : decode cX3_pushOfPair 15 = .ok (.aload_n 0, 1) := by decide +kernel
theorem dX3_pushOfPair_16 : decode cX3_pushOfPair 16 = .ok (.getfield 21, 3) := by decide +kernel
theorem dX3_pushOfPair_19 : decode cX3_pushOfPair 19 = .ok (.iload_n 2, 1) := by decide +kernel
theorem dX3_pushOfPair_20 : decode cX3_pushOfPair 20 = .ok (.laload, 1) := by decide +kernel
theorem dX3_pushOfPair_21 : decode cX3_pushOfPair 21 = .ok (.lsub, 1) := by decide +kernel
theorem dX3_pushOfPair_22 : decode cX3_pushOfPair 22 = .ok (.iload_n 3, 1) := by decide +kernel
theorem dX3_pushOfPair_23 : decode cX3_pushOfPair 23 = .ok (.i2l, 1) := by decide +kernel
theorem dX3_pushOfPair_24 : decode cX3_pushOfPair 24 = .ok (.lcmp, 1) := by decide +kernel
theorem dX3_pushOfPair_25 : decode cX3_pushOfPair 25 = .ok (.ifCond .lt 5, 3) := by decide +kernel
theorem dX3_pushOfPair_28 : decode cX3_pushOfPair 28 = .ok (.iconst 0, 1) := by decide +kernel
theorem dX3_pushOfPair_29 : decode cX3_pushOfPair 29 = .ok (.ireturn, 1) := by decide +kernel
theorem dX3_pushOfPair_30 : decode cX3_pushOfPair 30 = .ok (.aload_n 0, 1) := by decide +kernel
theorem dX3_pushOfPair_31 : decode cX3_pushOfPair 31 = .ok (.getfield 15, 3) := by decide +kernel
theorem dX3_pushOfPair_34 : decode cX3_pushOfPair 34 = .ok (.iload_n 1, 1) := by decide +kernel
theorem dX3_pushOfPair_35 : decode cX3_pushOfPair 35 = .ok (.iaload, 1) := by decide +kernel
theorem dX3_pushOfPair_36 : decode cX3_pushOfPair 36 = .ok (.aload_n 0, 1) := by decide +kernel
theorem dX3_pushOfPair_37 : decode cX3_pushOfPair 37 = .ok (.getfield 15, 3) := by decide +kernel
theorem dX3_pushOfPair_40 : decode cX3_pushOfPair 40 = .ok (.iload_n 2, 1) := by decide +kernel
theorem dX3_pushOfPair_41 : decode cX3_pushOfPair 41 = .ok (.iaload, 1) := by decide +kernel
theorem dX3_pushOfPair_42 : decode cX3_pushOfPair 42 = .ok (.isub, 1) := by decide +kernel
theorem dX3_pushOfPair_43 : decode cX3_pushOfPair 43 = .ok (.ireturn, 1) := by decide +kernel
set_option maxRecDepth 20000 in
theorem ggX3_countAhead_X3_isAhead : GoodIn wsX3_countAhead wsX3_isAhead := goodIn_ca (goodIn_ca (goodIn_r _ [7, 8, 9, 10, 11, 12, 13] (by decide +kernel) (by decide +kernel)) (goodIn_sub (fun _ h => List.mem_cons_of_mem _ (List.mem_append_left _ (List.mem_append_right _ h))) (by decide +kernel))) (goodIn_sub (fun _ h => List.mem_cons_of_mem _ (List.mem_append_right _ h)) (by decide +kernel))
set_option maxRecDepth 20000 in
theorem gX3_countAhead_X3_isAhead : GoodIn wsX3_countAhead (wsV RX3 61 RX3 yX3_isAhead wsX3_isAhead) := goodIn_app (goodIn_of _ (by decide +kernel)) ggX3_countAhead_X3_isAhead
theorem dX3_countAhead_0 : decode cX3_countAhead 0 = .ok (.iconst 0, 1) := by decide +kernel
theorem dX3_countAhead_1 : decode cX3_countAhead 1 = .ok (.istore_n 2, 1) := by decide +kernel
theorem dX3_countAhead_2 : decode cX3_countAhead 2 = .ok (.iconst 0, 1) := by decide +kernel
theorem dX3_countAhead_3 : decode cX3_countAhead 3 = .ok (.istore_n 3, 1) := by decide +kernel
theorem dX3_countAhead_4 : decode cX3_countAhead 4 = .ok (.iload_n 3, 1) := by decide +kernel
theorem dX3_countAhead_5 : decode cX3_countAhead 5 = .ok (.aload_n 0, 1) := by decide +kernel
theorem dX3_countAhead_6 : decode cX3_countAhead 6 = .ok (.getfield 25, 3) := by decide +kernel
theorem dX3_countAhead_9 : decode cX3_countAhead 9 = .ok (.if_icmp .ge 36, 3) := by decide +kernel
theorem dX3_countAhead_12 : decode cX3_countAhead 12 = .ok (.aload_n 0, 1) := by decide +kernel
theorem dX3_countAhead_13 : decode cX3_countAhead 13 = .ok (.getfield 9, 3) := by decide +kernel
theorem dX3_countAhead_16 : decode cX3_countAhead 16 = .ok (.iload_n 3, 1) := by decide +kernel
theorem dX3_countAhead_17 : decode cX3_countAhead 17 = .ok (.iaload, 1) := by decide +kernel
theorem dX3_countAhead_18 : decode cX3_countAhead 18 = .ok (.aload_n 0, 1) := by decide +kernel
theorem dX3_countAhead_19 : decode cX3_countAhead 19 = .ok (.getfield 9, 3) := by decide +kernel
theorem dX3_countAhead_22 : decode cX3_countAhead 22 = .ok (.iload_n 1, 1) := by decide +kernel
theorem dX3_countAhead_23 : decode cX3_countAhead 23 = .ok (.iaload, 1) := by decide +kernel
theorem dX3_countAhead_24 : decode cX3_countAhead 24 = .ok (.if_icmp .ne 15, 3) := by decide +kernel
theorem dX3_countAhead_27 : decode cX3_countAhead 27 = .ok (.aload_n 0, 1) := by decide +kernel
theorem dX3_countAhead_28 : decode cX3_countAhead 28 = .ok (.iload_n 3, 1) := by decide +kernel
theorem dX3_countAhead_29 : decode cX3_countAhead 29 = .ok (.iload_n 1, 1) := by decide +kernel
theorem dX3_countAhead_30 : decode cX3_countAhead 30 = .ok (.invokevirtual 61, 3) := by decide +kernel
theorem dX3_countAhead_33 : decode cX3_countAhead 33 = .ok (.ifCond .eq 6, 3) := by decide +kernel
theorem dX3_countAhead_36 : decode cX3_countAhead 36 = .ok (.iinc 2 1, 3) := by decide +kernel
theorem dX3_countAhead_39 : decode cX3_countAhead 39 = .ok (.iinc 3 1, 3) := by decide +kernel
theorem dX3_countAhead_42 : decode cX3_countAhead 42 = .ok (.goto (-38), 3) := by decide +kernel
theorem dX3_countAhead_45 : decode cX3_countAhead 45 = .ok (.iload_n 2, 1) := by decide +kernel
theorem dX3_countAhead_46 : decode cX3_countAhead 46 = .ok (.ireturn, 1) := by decide +kernel
theorem dX3_isAhead_0 : decode cX3_isAhead 0 = .ok (.aload_n 0, 1) := by decide +kernel
theorem dX3_isAhead_1 : decode cX3_isAhead 1 = .ok (.getfield 21, 3) := by decide +kernel
theorem dX3_isAhead_4 : decode cX3_isAhead 4 = .ok (.iload_n 1, 1) := by decide +kernel
theorem dX3_isAhead_5 : decode cX3_isAhead 5 = .ok (.laload, 1) := by decide +kernel
theorem dX3_isAhead_6 : decode cX3_isAhead 6 = .ok (.aload_n 0, 1) := by decide +kernel
theorem dX3_isAhead_7 : decode cX3_isAhead 7 = .ok (.getfield 21, 3) := by decide +kernel
theorem dX3_isAhead_10 : decode cX3_isAhead 10 = .ok (.iload_n 2, 1) := by decide +kernel
theorem dX3_isAhead_11 : decode cX3_isAhead 11 = .ok (.laload, 1) := by decide +kernel
theorem dX3_isAhead_12 : decode cX3_isAhead 12 = .ok (.lcmp, 1) := by decide +kernel
theorem dX3_isAhead_13 : decode cX3_isAhead 13 = .ok (.ifCond .eq 25, 3) := by decide +kernel
theorem dX3_isAhead_16 : decode cX3_isAhead 16 = .ok (.aload_n 0, 1) := by decide +kernel
theorem dX3_isAhead_17 : decode cX3_isAhead 17 = .ok (.getfield 21, 3) := by decide +kernel
theorem dX3_isAhead_20 : decode cX3_isAhead 20 = .ok (.iload_n 1, 1) := by decide +kernel
theorem dX3_isAhead_21 : decode cX3_isAhead 21 = .ok (.laload, 1) := by decide +kernel
theorem dX3_isAhead_22 : decode cX3_isAhead 22 = .ok (.aload_n 0, 1) := by decide +kernel
theorem dX3_isAhead_23 : decode cX3_isAhead 23 = .ok (.getfield 21, 3) := by decide +kernel
theorem dX3_isAhead_26 : decode cX3_isAhead 26 = .ok (.iload_n 2, 1) := by decide +kernel
theorem dX3_isAhead_27 : decode cX3_isAhead 27 = .ok (.laload, 1) := by decide +kernel
theorem dX3_isAhead_28 : decode cX3_isAhead 28 = .ok (.lcmp, 1) := by decide +kernel
theorem dX3_isAhead_29 : decode cX3_isAhead 29 = .ok (.ifCond .le 7, 3) := by decide +kernel
theorem dX3_isAhead_32 : decode cX3_isAhead 32 = .ok (.iconst 1, 1) := by decide +kernel
theorem dX3_isAhead_33 : decode cX3_isAhead 33 = .ok (.goto 4, 3) := by decide +kernel
theorem dX3_isAhead_36 : decode cX3_isAhead 36 = .ok (.iconst 0, 1) := by decide +kernel
theorem dX3_isAhead_37 : decode cX3_isAhead 37 = .ok (.ireturn, 1) := by decide +kernel
theorem dX3_isAhead_38 : decode cX3_isAhead 38 = .ok (.iload_n 1, 1) := by decide +kernel
theorem dX3_isAhead_39 : decode cX3_isAhead 39 = .ok (.iload_n 2, 1) := by decide +kernel
theorem dX3_isAhead_40 : decode cX3_isAhead 40 = .ok (.if_icmp .ge 7, 3) := by decide +kernel
theorem dX3_isAhead_43 : decode cX3_isAhead 43 = .ok (.iconst 1, 1) := by decide +kernel
theorem dX3_isAhead_44 : decode cX3_isAhead 44 = .ok (.goto 4, 3) := by decide +kernel
theorem dX3_isAhead_47 : decode cX3_isAhead 47 = .ok (.iconst 0, 1) := by decide +kernel
theorem dX3_isAhead_48 : decode cX3_isAhead 48 = .ok (.ireturn, 1) := by decide +kernel
set_option maxRecDepth 20000 in
theorem ggX3_countPairs_X3_arePair : GoodIn wsX3_countPairs wsX3_arePair := goodIn_ca (goodIn_ca (goodIn_r _ [8, 2, 9, 10, 11, 12, 13, 14] (by decide +kernel) (by decide +kernel)) (goodIn_sub (fun _ h => List.mem_cons_of_mem _ (List.mem_append_left _ (List.mem_append_right _ h))) (by decide +kernel))) (goodIn_sub (fun _ h => List.mem_cons_of_mem _ (List.mem_append_right _ h)) (by decide +kernel))
set_option maxRecDepth 20000 in
theorem gX3_countPairs_X3_arePair : GoodIn wsX3_countPairs (wsV RX3 57 RX3 yX3_arePair wsX3_arePair) := goodIn_app (goodIn_of _ (by decide +kernel)) ggX3_countPairs_X3_arePair
theorem dX3_countPairs_0 : decode cX3_countPairs 0 = .ok (.iconst 0, 1) := by decide +kernel
theorem dX3_countPairs_1 : decode cX3_countPairs 1 = .ok (.istore_n 3, 1) := by decide +kernel
theorem dX3_countPairs_2 : decode cX3_countPairs 2 = .ok (.iconst 0, 1) := by decide +kernel
theorem dX3_countPairs_3 : decode cX3_countPairs 3 = .ok (.istore 4, 2) := by decide +kernel
theorem dX3_countPairs_5 : decode cX3_countPairs 5 = .ok (.iload 4, 2) := by decide +kernel
theorem dX3_countPairs_7 : decode cX3_countPairs 7 = .ok (.aload_n 0, 1) := by decide +kernel
theorem dX3_countPairs_8 : decode cX3_countPairs 8 = .ok (.getfield 25, 3) := by decide +kernel
theorem dX3_countPairs_11 : decode cX3_countPairs 11 = .ok (.if_icmp .ge 103, 3) := by decide +kernel
theorem dX3_countPairs_14 : decode cX3_countPairs 14 = .ok (.iconst 0, 1) := by decide +kernel
theorem dX3_countPairs_15 : decode cX3_countPairs 15 = .ok (.istore 5, 2) := by decide +kernel
theorem dX3_countPairs_17 : decode cX3_countPairs 17 = .ok (.iload 5, 2) := by decide +kernel
theorem dX3_countPairs_19 : decode cX3_countPairs 19 = .ok (.aload_n 0, 1) := by decide +kernel
theorem dX3_countPairs_20 : decode cX3_countPairs 20 = .ok (.getfield 25, 3) := by decide +kernel
theorem dX3_countPairs_23 : decode cX3_countPairs 23 = .ok (.if_icmp .ge 85, 3) := by decide +kernel
theorem dX3_countPairs_26 : decode cX3_countPairs 26 = .ok (.iload_n 1, 1) := by decide +kernel
theorem dX3_countPairs_27 : decode cX3_countPairs 27 = .ok (.iconst (-1), 1) := by decide +kernel
theorem dX3_countPairs_28 : decode cX3_countPairs 28 = .ok (.if_icmp .eq 14, 3) := by decide +kernel
theorem dX3_countPairs_31 : decode cX3_countPairs 31 = .ok (.aload_n 0, 1) := by decide +kernel
theorem dX3_countPairs_32 : decode cX3_countPairs 32 = .ok (.getfield 9, 3) := by decide +kernel
theorem dX3_countPairs_35 : decode cX3_countPairs 35 = .ok (.iload 4, 2) := by decide +kernel
theorem dX3_countPairs_37 : decode cX3_countPairs 37 = .ok (.iaload, 1) := by decide +kernel
theorem dX3_countPairs_38 : decode cX3_countPairs 38 = .ok (.iload_n 1, 1) := by decide +kernel
theorem dX3_countPairs_39 : decode cX3_countPairs 39 = .ok (.if_icmp .ne 7, 3) := by decide +kernel
theorem dX3_countPairs_42 : decode cX3_countPairs 42 = .ok (.iconst 1, 1) := by decide +kernel
theorem dX3_countPairs_43 : decode cX3_countPairs 43 = .ok (.goto 4, 3) := by decide +kernel
theorem dX3_countPairs_46 : decode cX3_countPairs 46 = .ok (.iconst 0, 1) := by decide +kernel
theorem dX3_countPairs_47 : decode cX3_countPairs 47 = .ok (.istore 6, 2) := by decide +kernel
theorem dX3_countPairs_49 : decode cX3_countPairs 49 = .ok (.aload_n 0, 1) := by decide +kernel
theorem dX3_countPairs_50 : decode cX3_countPairs 50 = .ok (.getfield 21, 3) := by decide +kernel
theorem dX3_countPairs_53 : decode cX3_countPairs 53 = .ok (.iload 4, 2) := by decide +kernel
theorem dX3_countPairs_55 : decode cX3_countPairs 55 = .ok (.laload, 1) := by decide +kernel
theorem dX3_countPairs_56 : decode cX3_countPairs 56 = .ok (.aload_n 0, 1) := by decide +kernel
theorem dX3_countPairs_57 : decode cX3_countPairs 57 = .ok (.getfield 21, 3) := by decide +kernel
theorem dX3_countPairs_60 : decode cX3_countPairs 60 = .ok (.iload 5, 2) := by decide +kernel
theorem dX3_countPairs_62 : decode cX3_countPairs 62 = .ok (.laload, 1) := by decide +kernel
theorem dX3_countPairs_63 : decode cX3_countPairs 63 = .ok (.lcmp, 1) := by decide +kernel
theorem dX3_countPairs_64 : decode cX3_countPairs 64 = .ok (.ifCond .gt 7, 3) := by decide +kernel
theorem dX3_countPairs_67 : decode cX3_countPairs 67 = .ok (.iconst 1, 1) := by decide +kernel
theorem dX3_countPairs_68 : decode cX3_countPairs 68 = .ok (.goto 4, 3) := by decide +kernel
theorem dX3_countPairs_71 : decode cX3_countPairs 71 = .ok (.iconst 0, 1) := by decide +kernel
theorem dX3_countPairs_72 : decode cX3_countPairs 72 = .ok (.istore 7, 2) := by decide +kernel
theorem dX3_countPairs_74 : decode cX3_countPairs 74 = .ok (.iload 6, 2) := by decide +kernel
theorem dX3_countPairs_76 : decode cX3_countPairs 76 = .ok (.ifCond .eq 26, 3) := by decide +kernel
theorem dX3_countPairs_79 : decode cX3_countPairs 79 = .ok (.aload_n 0, 1) := by decide +kernel
theorem dX3_countPairs_80 : decode cX3_countPairs 80 = .ok (.iload 4, 2) := by decide +kernel
theorem dX3_countPairs_82 : decode cX3_countPairs 82 = .ok (.iload 5, 2) := by decide +kernel
theorem dX3_countPairs_84 : decode cX3_countPairs 84 = .ok (.invokevirtual 57, 3) := by decide +kernel
theorem dX3_countPairs_87 : decode cX3_countPairs 87 = .ok (.ifCond .eq 15, 3) := by decide +kernel
theorem dX3_countPairs_90 : decode cX3_countPairs 90 = .ok (.iload 7, 2) := by decide +kernel
theorem dX3_countPairs_92 : decode cX3_countPairs 92 = .ok (.ifCond .ne 7, 3) := by decide +kernel
theorem dX3_countPairs_95 : decode cX3_countPairs 95 = .ok (.iload_n 2, 1) := by decide +kernel
theorem dX3_countPairs_96 : decode cX3_countPairs 96 = .ok (.ifCond .ne 6, 3) := by decide +kernel
theorem dX3_countPairs_99 : decode cX3_countPairs 99 = .ok (.iinc 3 1, 3) := by decide +kernel
theorem dX3_countPairs_102 : decode cX3_countPairs 102 = .ok (.iinc 5 1, 3) := by decide +kernel
theorem dX3_countPairs_105 : decode cX3_countPairs 105 = .ok (.goto (-88), 3) := by decide +kernel
theorem dX3_countPairs_108 : decode cX3_countPairs 108 = .ok (.iinc 4 1, 3) := by decide +kernel
theorem dX3_countPairs_111 : decode cX3_countPairs 111 = .ok (.goto (-106), 3) := by decide +kernel
theorem dX3_countPairs_114 : decode cX3_countPairs 114 = .ok (.iload_n 3, 1) := by decide +kernel
theorem dX3_countPairs_115 : decode cX3_countPairs 115 = .ok (.ireturn, 1) := by decide +kernel
