theorem mem_r {big : List Cond} (ws : List Cond) (ps : List Nat) (hp : ws = ps.filterMap (fun i => big[i]?)) : ∀ w ∈ ws, w ∈ big := by
  intro w hw
  rw [hp] at hw
  obtain ⟨i, -, hi⟩ := List.mem_filterMap.mp hw
  exact List.mem_of_getElem? hi
theorem in_app {a b T : List Cond} (ha : ∀ w ∈ a, w ∈ T) (hb : ∀ w ∈ b, w ∈ T) : ∀ w ∈ a ++ b, w ∈ T := fun w h => (List.mem_append.mp h).elim (ha w) (hb w)
theorem in_nil {T : List Cond} : ∀ w ∈ ([] : List Cond), w ∈ T := fun _ h => nomatch h
set_option maxRecDepth 20000 in
theorem wl_r1 : ∀ w ∈ wsL_law0_r1, w ∈ lw_tbl := mem_r _ [49, 50, 25, 828, 829, 46, 84, 51, 52, 53, 54, 55, 56, 57, 58, 26, 521, 85, 86, 27, 522, 128, 129, 28] (by decide +kernel)
set_option maxRecDepth 20000 in
theorem wl_r2 : ∀ w ∈ wsL_law0_r2, w ∈ lw_tbl := mem_r _ [523, 83, 524, 60, 61, 62, 66, 68, 70, 71, 88, 89, 90, 93, 95, 97, 99, 101, 103, 105, 107, 131, 132, 133] (by decide +kernel)
set_option maxRecDepth 20000 in
theorem wl_r3 : ∀ w ∈ wsL_law0_r3, w ∈ lw_tbl := mem_r _ [168, 169, 134, 135, 29, 170, 137, 138, 139, 184, 186, 0, 187, 65, 92, 518, 520, 333, 332, 42, 188, 189, 190, 191] (by decide +kernel)
set_option maxRecDepth 20000 in
theorem wl_r4 : ∀ w ∈ wsL_law0_r4, w ∈ lw_tbl := mem_r _ [192, 193, 194, 30, 195, 196, 197, 198, 199, 200, 35, 830, 831, 832, 833, 840, 841, 842, 911, 843, 844, 846, 847, 848] (by decide +kernel)
set_option maxRecDepth 20000 in
theorem wl_r5 : ∀ w ∈ wsL_law0_r5, w ∈ lw_tbl := mem_r _ [849, 850, 851, 852, 853, 854, 855, 856, 834, 836, 11, 837, 839, 845, 534, 535, 536, 537, 538, 539, 540, 541, 542, 543] (by decide +kernel)
set_option maxRecDepth 20000 in
theorem wl_r6 : ∀ w ∈ wsL_law0_r6, w ∈ lw_tbl := mem_r _ [544, 545, 546, 547, 63, 548, 916, 917, 918, 919, 838, 920, 921, 922, 549, 550, 551, 552, 69, 553, 554, 555, 556, 923] (by decide +kernel)
set_option maxRecDepth 20000 in
theorem wl_r7 : ∀ w ∈ wsL_law0_r7, w ∈ lw_tbl := mem_r _ [924, 925, 926, 927, 929, 12, 930, 557, 558, 559, 560, 573, 561, 562, 563, 564, 565, 566, 567, 568, 569, 570, 571, 572] (by decide +kernel)
set_option maxRecDepth 20000 in
theorem wl_r8 : ∀ w ∈ wsL_law0_r8, w ∈ lw_tbl := mem_r _ [931, 932, 933, 934, 935, 937, 13, 938, 939, 940, 941, 574, 575, 576, 577, 942, 943, 944, 945, 756, 757, 24, 758, 759] (by decide +kernel)
set_option maxRecDepth 20000 in
theorem wl_r9 : ∀ w ∈ wsL_law0_r9, w ∈ lw_tbl := mem_r _ [785, 788, 789, 790, 791, 792, 795, 241, 47, 802, 607, 608, 609, 946, 947, 948, 949, 912, 913, 914, 915, 578, 579, 580] (by decide +kernel)
set_option maxRecDepth 20000 in
theorem wl_r10 : ∀ w ∈ wsL_law0_r10, w ∈ lw_tbl := mem_r _ [581, 582, 584, 950, 951, 952, 953, 586, 587, 588, 589, 590, 591, 592, 593, 594, 595, 596, 597, 91, 598, 599, 600, 601] (by decide +kernel)
set_option maxRecDepth 20000 in
theorem wl_r11 : ∀ w ∈ wsL_law0_r11, w ∈ lw_tbl := mem_r _ [602, 603, 604, 605, 606, 610, 611, 612, 613, 614, 615, 616, 617, 618, 64, 171, 619, 620, 621, 622, 623, 625, 3, 626] (by decide +kernel)
set_option maxRecDepth 20000 in
theorem wl_r12 : ∀ w ∈ wsL_law0_r12, w ∈ lw_tbl := mem_r _ [627, 628, 629, 630, 631, 633, 4, 634, 172, 635, 637, 5, 638, 141, 639, 640, 641, 642, 644, 6, 645, 647, 646, 648] (by decide +kernel)
set_option maxRecDepth 20000 in
theorem wl_r13 : ∀ w ∈ wsL_law0_r13, w ∈ lw_tbl := mem_r _ [650, 7, 651, 652, 653, 654, 655, 656, 140, 142, 145, 148, 151, 153, 657, 659, 8, 660, 661, 662, 663, 664, 143, 146] (by decide +kernel)
set_option maxRecDepth 20000 in
theorem wl_r14 : ∀ w ∈ wsL_law0_r14, w ∈ lw_tbl := mem_r _ [149, 152, 154, 665, 666, 667, 668, 670, 9, 671, 144, 147, 150, 672, 673, 41, 674, 675, 676, 677, 678, 679, 680, 681] (by decide +kernel)
set_option maxRecDepth 20000 in
theorem wl_r15 : ∀ w ∈ wsL_law0_r15, w ∈ lw_tbl := mem_r _ [682, 954, 955, 956, 957, 958, 960, 14, 961, 962, 964, 15, 965, 966, 968, 16, 969, 970, 972, 17, 973, 974, 976, 18] (by decide +kernel)
set_option maxRecDepth 20000 in
theorem wl_r16 : ∀ w ∈ wsL_law0_r16, w ∈ lw_tbl := mem_r _ [977, 978, 980, 19, 981, 982, 984, 20, 985, 860, 861, 857, 858, 859, 986, 987, 988, 989, 990, 991, 992, 994, 21, 995] (by decide +kernel)
set_option maxRecDepth 20000 in
theorem wl_r17 : ∀ w ∈ wsL_law0_r17, w ∈ lw_tbl := mem_r _ [996, 997, 998, 683, 684, 685, 686, 999, 1000, 1001, 1002, 687, 688, 689, 690, 94, 96, 98, 100, 102, 104, 691, 692, 693] (by decide +kernel)
set_option maxRecDepth 20000 in
theorem wl_r18 : ∀ w ∈ wsL_law0_r18, w ∈ lw_tbl := mem_r _ [694, 695, 696, 697, 698, 1003, 1004, 1005, 1006, 1007, 1009, 22, 1010, 699, 700, 701, 702, 703, 106, 108, 704, 1011, 1012, 1013] (by decide +kernel)
set_option maxRecDepth 20000 in
theorem wl_r19 : ∀ w ∈ wsL_law0_r19, w ∈ lw_tbl := mem_r _ [1014, 1015, 1016, 705, 706, 707, 708, 709, 1017, 1018, 1019, 1020, 710, 711, 712, 713, 714, 715, 1021, 1022, 1023, 1024, 716, 717] (by decide +kernel)
set_option maxRecDepth 20000 in
theorem wl_r20 : ∀ w ∈ wsL_law0_r20, w ∈ lw_tbl := mem_r _ [718, 719, 720, 1025, 1026, 1027, 1028, 721, 722, 723, 724, 67, 725, 726, 727, 728, 729, 731, 10, 732, 1029, 1030, 1031, 1032] (by decide +kernel)
set_option maxRecDepth 20000 in
theorem wl_r21 : ∀ w ∈ wsL_law0_r21, w ∈ lw_tbl := mem_r _ [733, 734, 735, 736, 737, 738, 739, 740, 741, 742, 743, 1033, 1034, 1035, 1036, 1037, 1039, 23, 1040, 804, 805, 806, 807, 821] (by decide +kernel)
set_option maxRecDepth 20000 in
theorem wl_r22 : ∀ w ∈ wsL_law0_r22, w ∈ lw_tbl := mem_r _ [822, 823, 824, 825, 48, 1041, 1042, 1043, 1044, 744, 745, 746, 747, 748, 749, 750, 751, 1045, 1046, 1047, 1048, 752, 753, 754] (by decide +kernel)
set_option maxRecDepth 20000 in
theorem wl_r23 : ∀ w ∈ wsL_law0_r23, w ∈ lw_tbl := mem_r _ [755, 1049, 1050, 1051, 1052] (by decide +kernel)
set_option maxRecDepth 20000 in
theorem wl_wsX40 : ∀ w ∈ wsX40, w ∈ lw_tbl := mem_r _ [525, 527, 529, 531] (by decide +kernel)
set_option maxRecDepth 20000 in
theorem wl_wsX50 : ∀ w ∈ wsX50, w ∈ lw_tbl := mem_r _ [862, 864, 866, 868, 870, 872, 874, 876, 878, 880, 882, 884, 886, 888, 890, 892, 894, 896, 898, 900, 902, 904, 906, 908] (by decide +kernel)
set_option maxRecDepth 20000 in
theorem wl_wsX30 : ∀ w ∈ wsX30, w ∈ lw_tbl := mem_r _ [72, 74, 76, 78, 80] (by decide +kernel)
set_option maxRecDepth 20000 in
theorem wl_wsX10 : ∀ w ∈ wsX10, w ∈ lw_tbl := mem_r _ [109, 111, 113, 115, 117, 119, 121, 123, 125] (by decide +kernel)
set_option maxRecDepth 20000 in
theorem wl_wsX20 : ∀ w ∈ wsX20, w ∈ lw_tbl := mem_r _ [173, 175, 177, 179, 181] (by decide +kernel)
set_option maxRecDepth 20000 in
theorem wl_wsX00 : ∀ w ∈ wsX00, w ∈ lw_tbl := mem_r _ [155, 157, 159, 161, 163, 165] (by decide +kernel)
set_option maxRecDepth 20000 in
theorem wl_x0 : ∀ w ∈ (vx_atN 8).filter goodWord, w ∈ lw_tbl := mem_r _ [31, 223, 232, 246, 249, 251, 224, 225, 55, 56, 226, 231, 247, 507, 213, 508, 215, 509, 217, 227, 229, 219, 781, 236, 237, 769, 771, 243, 244, 760, 761, 762, 763, 763, 764, 765, 766, 766, 767, 768, 224, 47, 241, 783, 235, 777, 778, 780, 222, 221, 775] (by decide +kernel)
set_option maxRecDepth 20000 in
theorem wl_x1 : ∀ w ∈ (vx_atM "java/lang/ArrayIndexOutOfBoundsException" ["java/lang/IndexOutOfBoundsException", "java/lang/RuntimeException", "java/lang/Exception"]).filter goodWord, w ∈ lw_tbl := mem_r _ [31, 223, 232, 246, 249, 251, 224, 225, 55, 56, 226, 231, 247, 507, 213, 508, 215, 509, 217, 227, 229, 219, 503, 504, 506, 219, 786, 787, 493, 494, 494, 495, 496, 497, 497, 498, 499, 500, 500, 501, 502, 503, 38, 438, 286, 484, 486, 485, 487, 35, 200, 210, 211, 212, 214, 216, 218, 222, 221, 220] (by decide +kernel)
set_option maxRecDepth 20000 in
theorem wl_x2 : ∀ w ∈ (vx_atM "java/lang/ArithmeticException" ["java/lang/RuntimeException", "java/lang/Exception"]).filter goodWord, w ∈ lw_tbl := mem_r _ [31, 223, 232, 246, 249, 251, 224, 225, 55, 56, 226, 231, 247, 507, 213, 508, 215, 509, 217, 227, 229, 219, 503, 504, 506, 219, 809, 810, 811, 497, 497, 498, 499, 500, 500, 501, 502, 503, 38, 438, 286, 484, 486, 485, 487, 48, 808, 820, 234, 814, 815, 817, 813, 222, 221, 812] (by decide +kernel)
set_option maxRecDepth 20000 in
theorem wl_x3 : ∀ w ∈ (vx_atS RX4 174 "java/lang/ArithmeticException" ["java/lang/RuntimeException", "java/lang/Exception"]).filter goodWord, w ∈ lw_tbl := mem_r _ [31, 223, 232, 246, 249, 251, 224, 225, 55, 56, 226, 231, 247, 507, 213, 508, 215, 509, 217, 227, 229, 219, 503, 504, 506, 219, 809, 810, 811, 497, 497, 498, 499, 500, 500, 501, 502, 503, 827, 808, 820, 234, 814, 815, 817, 813, 222, 221, 812] (by decide +kernel)
set_option maxRecDepth 20000 in
theorem wl_ai : ∀ w ∈ atAI.filter goodWord, w ∈ lw_tbl := mem_r _ [31, 223, 232, 246, 249, 251, 224, 225, 55, 56, 226, 231, 247, 507, 213, 508, 215, 509, 217, 227, 229, 219, 503, 504, 506, 219, 786, 787, 493, 494, 494, 495, 496, 497, 497, 498, 499, 500, 500, 501, 502, 503, 794, 200, 210, 211, 212, 214, 216, 218, 222, 221, 220] (by decide +kernel)
set_option maxRecDepth 20000 in
theorem wl_np : ∀ w ∈ atNP.filter goodWord, w ∈ lw_tbl := mem_r _ [31, 223, 232, 246, 249, 251, 224, 225, 55, 56, 226, 231, 247, 507, 213, 508, 215, 509, 217, 227, 229, 219, 503, 504, 506, 219, 798, 799, 800, 497, 497, 498, 499, 500, 500, 501, 502, 503, 781, 236, 237, 769, 771, 243, 244, 797, 241, 783, 235, 777, 778, 780, 776, 222, 221, 775] (by decide +kernel)
set_option maxRecDepth 20000 in
theorem wl_J : ∀ w ∈ wsJx000600 ++ wsJx5d7770, w ∈ lw_tbl := mem_r _ [212, 214, 216, 218, 220, 514, 775, 776, 777, 778, 779, 780, 771, 773] (by decide +kernel)
theorem wsL_law_in0 : ∀ w ∈ wsL_law0, w ∈ lw_tbl := (in_app (in_app (in_app (in_app (in_app (in_app (in_app (in_app (in_app (in_app wl_r1 (in_app wl_r2 (in_app wl_r3 (in_app wl_r4 (in_app wl_r5 (in_app wl_r6 (in_app wl_r7 (in_app wl_r8 (in_app wl_r9 (in_app wl_r10 (in_app wl_r11 (in_app wl_r12 (in_app wl_r13 (in_app wl_r14 (in_app wl_r15 (in_app wl_r16 (in_app wl_r17 (in_app wl_r18 (in_app wl_r19 (in_app wl_r20 (in_app wl_r21 (in_app wl_r22 wl_r23)))))))))))))))))))))) wl_wsX40) wl_wsX50) wl_wsX30) wl_wsX10) wl_wsX20) wl_wsX00) (fun w h => wl_J w (List.mem_append_left _ h))) (fun w h => wl_J w (List.mem_append_right _ h))) in_nil)
theorem wsL_law_in : ∀ w ∈ wsL_law, w ∈ lw_tbl := in_app (in_app (in_app (in_app wsL_law_in0 wl_x0) wl_x1) wl_x2) wl_x3
theorem wl_told : ∀ w ∈ exTold, w ∈ lw_tbl := in_app wl_ai wl_np
theorem wl_share : ∀ w ∈ exShare, w ∈ lw_tbl := wl_x3
theorem gT {ws : List Cond} (h : GoodIn wsL_law ws) : GoodIn lw_tbl ws := fun w hw => ⟨wsL_law_in w (h w hw).1, (h w hw).2⟩
theorem inlX0 : ∀ w ∈ wsX00, w ∈ wsL_law := fun _ h => List.mem_append_left _ (List.mem_append_left _ (List.mem_append_left _ (List.mem_append_left _ (List.mem_append_left _ (List.mem_append_left _ (List.mem_append_left _ (List.mem_append_right _ h)))))))
theorem inX0 : ∀ w ∈ wsX00, w ∈ lw_tbl := fun w h => wsL_law_in w (inlX0 w h)
theorem inlX1 : ∀ w ∈ wsX10, w ∈ wsL_law := fun _ h => List.mem_append_left _ (List.mem_append_left _ (List.mem_append_left _ (List.mem_append_left _ (List.mem_append_left _ (List.mem_append_left _ (List.mem_append_left _ (List.mem_append_left _ (List.mem_append_left _ (List.mem_append_right _ h)))))))))
theorem inX1 : ∀ w ∈ wsX10, w ∈ lw_tbl := fun w h => wsL_law_in w (inlX1 w h)
theorem inlX2 : ∀ w ∈ wsX20, w ∈ wsL_law := fun _ h => List.mem_append_left _ (List.mem_append_left _ (List.mem_append_left _ (List.mem_append_left _ (List.mem_append_left _ (List.mem_append_left _ (List.mem_append_left _ (List.mem_append_left _ (List.mem_append_right _ h))))))))
theorem inX2 : ∀ w ∈ wsX20, w ∈ lw_tbl := fun w h => wsL_law_in w (inlX2 w h)
theorem inlX3 : ∀ w ∈ wsX30, w ∈ wsL_law := fun _ h => List.mem_append_left _ (List.mem_append_left _ (List.mem_append_left _ (List.mem_append_left _ (List.mem_append_left _ (List.mem_append_left _ (List.mem_append_left _ (List.mem_append_left _ (List.mem_append_left _ (List.mem_append_left _ (List.mem_append_right _ h))))))))))
theorem inX3 : ∀ w ∈ wsX30, w ∈ lw_tbl := fun w h => wsL_law_in w (inlX3 w h)
theorem inlX4 : ∀ w ∈ wsX40, w ∈ wsL_law := fun _ h => List.mem_append_left _ (List.mem_append_left _ (List.mem_append_left _ (List.mem_append_left _ (List.mem_append_left _ (List.mem_append_left _ (List.mem_append_left _ (List.mem_append_left _ (List.mem_append_left _ (List.mem_append_left _ (List.mem_append_left _ (List.mem_append_left _ (List.mem_append_right _ h))))))))))))
theorem inX4 : ∀ w ∈ wsX40, w ∈ lw_tbl := fun w h => wsL_law_in w (inlX4 w h)
theorem inlX5 : ∀ w ∈ wsX50, w ∈ wsL_law := fun _ h => List.mem_append_left _ (List.mem_append_left _ (List.mem_append_left _ (List.mem_append_left _ (List.mem_append_left _ (List.mem_append_left _ (List.mem_append_left _ (List.mem_append_left _ (List.mem_append_left _ (List.mem_append_left _ (List.mem_append_left _ (List.mem_append_right _ h)))))))))))
theorem inX5 : ∀ w ∈ wsX50, w ∈ lw_tbl := fun w h => wsL_law_in w (inlX5 w h)
