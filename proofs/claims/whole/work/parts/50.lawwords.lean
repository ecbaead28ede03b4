theorem mem_r {big : List Cond} (ws : List Cond) (ps : List Nat) (hp : ws = ps.filterMap (fun i => big[i]?)) : ∀ w ∈ ws, w ∈ big := by
  intro w hw
  rw [hp] at hw
  obtain ⟨i, -, hi⟩ := List.mem_filterMap.mp hw
  exact List.mem_of_getElem? hi
theorem in_app {a b T : List Cond} (ha : ∀ w ∈ a, w ∈ T) (hb : ∀ w ∈ b, w ∈ T) : ∀ w ∈ a ++ b, w ∈ T := fun w h => (List.mem_append.mp h).elim (ha w) (hb w)
theorem in_nil {T : List Cond} : ∀ w ∈ ([] : List Cond), w ∈ T := fun _ h => nomatch h
set_option maxRecDepth 20000 in
theorem wl_r1 : ∀ w ∈ wsL_law0_r1, w ∈ lw_tbl := mem_r _ [49, 50, 25, 825, 826, 46, 84, 51, 52, 53, 54, 55, 56, 57, 58, 26, 520, 85, 86, 27, 521, 128, 129, 28] (by decide +kernel)
set_option maxRecDepth 20000 in
theorem wl_r2 : ∀ w ∈ wsL_law0_r2, w ∈ lw_tbl := mem_r _ [522, 83, 523, 60, 61, 62, 66, 68, 70, 71, 88, 89, 90, 93, 95, 97, 99, 101, 103, 105, 107, 131, 132, 133] (by decide +kernel)
set_option maxRecDepth 20000 in
theorem wl_r3 : ∀ w ∈ wsL_law0_r3, w ∈ lw_tbl := mem_r _ [168, 169, 134, 135, 29, 170, 137, 138, 139, 184, 186, 0, 187, 65, 92, 517, 519, 332, 331, 42, 188, 189, 190, 191] (by decide +kernel)
set_option maxRecDepth 20000 in
theorem wl_r4 : ∀ w ∈ wsL_law0_r4, w ∈ lw_tbl := mem_r _ [192, 193, 30, 194, 195, 196, 197, 198, 199, 35, 827, 828, 829, 830, 837, 838, 839, 908, 840, 841, 843, 844, 845, 846] (by decide +kernel)
set_option maxRecDepth 20000 in
theorem wl_r5 : ∀ w ∈ wsL_law0_r5, w ∈ lw_tbl := mem_r _ [847, 848, 849, 850, 851, 852, 853, 831, 833, 11, 834, 836, 842, 533, 534, 535, 536, 537, 538, 539, 540, 541, 542, 543] (by decide +kernel)
set_option maxRecDepth 20000 in
theorem wl_r6 : ∀ w ∈ wsL_law0_r6, w ∈ lw_tbl := mem_r _ [544, 545, 546, 63, 547, 913, 914, 915, 916, 835, 917, 918, 919, 548, 549, 550, 551, 69, 552, 553, 554, 555, 920, 921] (by decide +kernel)
set_option maxRecDepth 20000 in
theorem wl_r7 : ∀ w ∈ wsL_law0_r7, w ∈ lw_tbl := mem_r _ [922, 923, 924, 926, 12, 927, 556, 557, 558, 559, 560, 561, 562, 563, 564, 565, 566, 567, 568, 569, 570, 571, 928, 929] (by decide +kernel)
set_option maxRecDepth 20000 in
theorem wl_r8 : ∀ w ∈ wsL_law0_r8, w ∈ lw_tbl := mem_r _ [930, 931, 932, 934, 13, 935, 936, 937, 938, 572, 573, 574, 575, 939, 940, 941, 942, 753, 754, 24, 755, 756, 782, 785] (by decide +kernel)
set_option maxRecDepth 20000 in
theorem wl_r9 : ∀ w ∈ wsL_law0_r9, w ∈ lw_tbl := mem_r _ [786, 787, 788, 789, 792, 240, 47, 799, 605, 606, 607, 943, 944, 945, 946, 909, 910, 911, 912, 576, 577, 578, 579, 580] (by decide +kernel)
set_option maxRecDepth 20000 in
theorem wl_r10 : ∀ w ∈ wsL_law0_r10, w ∈ lw_tbl := mem_r _ [582, 947, 948, 949, 950, 584, 585, 586, 587, 588, 589, 590, 591, 592, 593, 594, 595, 91, 596, 597, 598, 599, 600, 601] (by decide +kernel)
set_option maxRecDepth 20000 in
theorem wl_r11 : ∀ w ∈ wsL_law0_r11, w ∈ lw_tbl := mem_r _ [602, 603, 604, 608, 609, 610, 611, 612, 613, 614, 615, 616, 64, 171, 617, 618, 619, 620, 621, 623, 3, 624, 625, 626] (by decide +kernel)
set_option maxRecDepth 20000 in
theorem wl_r12 : ∀ w ∈ wsL_law0_r12, w ∈ lw_tbl := mem_r _ [627, 628, 629, 631, 4, 632, 172, 633, 635, 5, 636, 141, 637, 638, 639, 640, 642, 6, 643, 644, 645, 647, 7, 648] (by decide +kernel)
set_option maxRecDepth 20000 in
theorem wl_r13 : ∀ w ∈ wsL_law0_r13, w ∈ lw_tbl := mem_r _ [649, 650, 651, 652, 653, 140, 142, 145, 148, 151, 153, 654, 656, 8, 657, 658, 659, 660, 661, 143, 146, 149, 152, 154] (by decide +kernel)
set_option maxRecDepth 20000 in
theorem wl_r14 : ∀ w ∈ wsL_law0_r14, w ∈ lw_tbl := mem_r _ [662, 663, 664, 665, 667, 9, 668, 144, 147, 150, 669, 670, 41, 671, 672, 673, 674, 675, 676, 677, 678, 679, 951, 952] (by decide +kernel)
set_option maxRecDepth 20000 in
theorem wl_r15 : ∀ w ∈ wsL_law0_r15, w ∈ lw_tbl := mem_r _ [953, 954, 955, 957, 14, 958, 959, 961, 15, 962, 963, 965, 16, 966, 967, 969, 17, 970, 971, 973, 18, 974, 975, 977] (by decide +kernel)
set_option maxRecDepth 20000 in
theorem wl_r16 : ∀ w ∈ wsL_law0_r16, w ∈ lw_tbl := mem_r _ [19, 978, 979, 981, 20, 982, 857, 858, 854, 855, 856, 983, 984, 985, 986, 987, 988, 989, 991, 21, 992, 993, 994, 995] (by decide +kernel)
set_option maxRecDepth 20000 in
theorem wl_r17 : ∀ w ∈ wsL_law0_r17, w ∈ lw_tbl := mem_r _ [680, 681, 682, 683, 996, 997, 998, 999, 684, 685, 686, 687, 94, 96, 98, 100, 102, 104, 688, 689, 690, 691, 692, 693] (by decide +kernel)
set_option maxRecDepth 20000 in
theorem wl_r18 : ∀ w ∈ wsL_law0_r18, w ∈ lw_tbl := mem_r _ [694, 695, 1000, 1001, 1002, 1003, 1004, 1006, 22, 1007, 696, 697, 698, 699, 700, 106, 108, 701, 1008, 1009, 1010, 1011, 1012, 1013] (by decide +kernel)
set_option maxRecDepth 20000 in
theorem wl_r19 : ∀ w ∈ wsL_law0_r19, w ∈ lw_tbl := mem_r _ [702, 703, 704, 705, 706, 1014, 1015, 1016, 1017, 707, 708, 709, 710, 711, 712, 1018, 1019, 1020, 1021, 713, 714, 715, 716, 717] (by decide +kernel)
set_option maxRecDepth 20000 in
theorem wl_r20 : ∀ w ∈ wsL_law0_r20, w ∈ lw_tbl := mem_r _ [1022, 1023, 1024, 1025, 718, 719, 720, 721, 67, 722, 723, 724, 725, 726, 728, 10, 729, 1026, 1027, 1028, 1029, 730, 731, 732] (by decide +kernel)
set_option maxRecDepth 20000 in
theorem wl_r21 : ∀ w ∈ wsL_law0_r21, w ∈ lw_tbl := mem_r _ [733, 734, 735, 736, 737, 738, 739, 740, 1030, 1031, 1032, 1033, 1034, 1036, 23, 1037, 801, 802, 803, 804, 818, 819, 820, 821] (by decide +kernel)
set_option maxRecDepth 20000 in
theorem wl_r22 : ∀ w ∈ wsL_law0_r22, w ∈ lw_tbl := mem_r _ [822, 48, 1038, 1039, 1040, 1041, 741, 742, 743, 744, 745, 746, 747, 748, 1042, 1043, 1044, 1045, 749, 750, 751, 752, 1046, 1047] (by decide +kernel)
set_option maxRecDepth 20000 in
theorem wl_r23 : ∀ w ∈ wsL_law0_r23, w ∈ lw_tbl := mem_r _ [1048, 1049] (by decide +kernel)
set_option maxRecDepth 20000 in
theorem wl_wsX40 : ∀ w ∈ wsX40, w ∈ lw_tbl := mem_r _ [524, 526, 528, 530] (by decide +kernel)
set_option maxRecDepth 20000 in
theorem wl_wsX50 : ∀ w ∈ wsX50, w ∈ lw_tbl := mem_r _ [859, 861, 863, 865, 867, 869, 871, 873, 875, 877, 879, 881, 883, 885, 887, 889, 891, 893, 895, 897, 899, 901, 903, 905] (by decide +kernel)
set_option maxRecDepth 20000 in
theorem wl_wsX30 : ∀ w ∈ wsX30, w ∈ lw_tbl := mem_r _ [72, 74, 76, 78, 80] (by decide +kernel)
set_option maxRecDepth 20000 in
theorem wl_wsX10 : ∀ w ∈ wsX10, w ∈ lw_tbl := mem_r _ [109, 111, 113, 115, 117, 119, 121, 123, 125] (by decide +kernel)
set_option maxRecDepth 20000 in
theorem wl_wsX20 : ∀ w ∈ wsX20, w ∈ lw_tbl := mem_r _ [173, 175, 177, 179, 181] (by decide +kernel)
set_option maxRecDepth 20000 in
theorem wl_wsX00 : ∀ w ∈ wsX00, w ∈ lw_tbl := mem_r _ [155, 157, 159, 161, 163, 165] (by decide +kernel)
set_option maxRecDepth 20000 in
theorem wl_x0 : ∀ w ∈ (vx_atN 8).filter goodWord, w ∈ lw_tbl := mem_r _ [31, 222, 231, 245, 248, 250, 223, 224, 55, 56, 225, 230, 246, 506, 212, 507, 214, 508, 216, 226, 228, 218, 778, 235, 236, 766, 768, 242, 243, 757, 758, 759, 760, 760, 761, 762, 763, 763, 764, 765, 223, 47, 240, 780, 234, 774, 775, 777, 221, 220, 772] (by decide +kernel)
set_option maxRecDepth 20000 in
theorem wl_x1 : ∀ w ∈ (vx_atM "java/lang/ArrayIndexOutOfBoundsException" ["java/lang/IndexOutOfBoundsException", "java/lang/RuntimeException", "java/lang/Exception"]).filter goodWord, w ∈ lw_tbl := mem_r _ [31, 222, 231, 245, 248, 250, 223, 224, 55, 56, 225, 230, 246, 506, 212, 507, 214, 508, 216, 226, 228, 218, 502, 503, 505, 218, 783, 784, 492, 493, 493, 494, 495, 496, 496, 497, 498, 499, 499, 500, 501, 502, 38, 437, 285, 483, 485, 484, 486, 35, 199, 209, 210, 211, 213, 215, 217, 221, 220, 219] (by decide +kernel)
set_option maxRecDepth 20000 in
theorem wl_x2 : ∀ w ∈ (vx_atM "java/lang/ArithmeticException" ["java/lang/RuntimeException", "java/lang/Exception"]).filter goodWord, w ∈ lw_tbl := mem_r _ [31, 222, 231, 245, 248, 250, 223, 224, 55, 56, 225, 230, 246, 506, 212, 507, 214, 508, 216, 226, 228, 218, 502, 503, 505, 218, 806, 807, 808, 496, 496, 497, 498, 499, 499, 500, 501, 502, 38, 437, 285, 483, 485, 484, 486, 48, 805, 817, 233, 811, 812, 814, 810, 221, 220, 809] (by decide +kernel)
set_option maxRecDepth 20000 in
theorem wl_x3 : ∀ w ∈ (vx_atS RX4 171 "java/lang/ArithmeticException" ["java/lang/RuntimeException", "java/lang/Exception"]).filter goodWord, w ∈ lw_tbl := mem_r _ [31, 222, 231, 245, 248, 250, 223, 224, 55, 56, 225, 230, 246, 506, 212, 507, 214, 508, 216, 226, 228, 218, 502, 503, 505, 218, 806, 807, 808, 496, 496, 497, 498, 499, 499, 500, 501, 502, 824, 805, 817, 233, 811, 812, 814, 810, 221, 220, 809] (by decide +kernel)
set_option maxRecDepth 20000 in
theorem wl_ai : ∀ w ∈ atAI.filter goodWord, w ∈ lw_tbl := mem_r _ [31, 222, 231, 245, 248, 250, 223, 224, 55, 56, 225, 230, 246, 506, 212, 507, 214, 508, 216, 226, 228, 218, 502, 503, 505, 218, 783, 784, 492, 493, 493, 494, 495, 496, 496, 497, 498, 499, 499, 500, 501, 502, 791, 199, 209, 210, 211, 213, 215, 217, 221, 220, 219] (by decide +kernel)
set_option maxRecDepth 20000 in
theorem wl_np : ∀ w ∈ atNP.filter goodWord, w ∈ lw_tbl := mem_r _ [31, 222, 231, 245, 248, 250, 223, 224, 55, 56, 225, 230, 246, 506, 212, 507, 214, 508, 216, 226, 228, 218, 502, 503, 505, 218, 795, 796, 797, 496, 496, 497, 498, 499, 499, 500, 501, 502, 778, 235, 236, 766, 768, 242, 243, 794, 240, 780, 234, 774, 775, 777, 773, 221, 220, 772] (by decide +kernel)
set_option maxRecDepth 20000 in
theorem wl_J : ∀ w ∈ wsJx000600 ++ wsJx5d7770, w ∈ lw_tbl := mem_r _ [211, 213, 215, 217, 219, 513, 772, 773, 774, 775, 776, 777, 768, 770] (by decide +kernel)
theorem wsL_law_in0 : ∀ w ∈ wsL_law0, w ∈ lw_tbl := (in_app (in_app (in_app (in_app (in_app (in_app (in_app (in_app (in_app (in_app wl_r1 (in_app wl_r2 (in_app wl_r3 (in_app wl_r4 (in_app wl_r5 (in_app wl_r6 (in_app wl_r7 (in_app wl_r8 (in_app wl_r9 (in_app wl_r10 (in_app wl_r11 (in_app wl_r12 (in_app wl_r13 (in_app wl_r14 (in_app wl_r15 (in_app wl_r16 (in_app wl_r17 (in_app wl_r18 (in_app wl_r19 (in_app wl_r20 (in_app wl_r21 (in_app wl_r22 wl_r23)))))))))))))))))))))) wl_wsX40) wl_wsX50) wl_wsX30) wl_wsX10) wl_wsX20) wl_wsX00) (fun w h => wl_J w (List.mem_append_left _ h))) (fun w h => wl_J w (List.mem_append_right _ h))) in_nil)
theorem wsL_law_in : ∀ w ∈ wsL_law, w ∈ lw_tbl := in_app (in_app (in_app (in_app wsL_law_in0 wl_x0) wl_x1) wl_x2) wl_x3
theorem wl_told : ∀ w ∈ exTold, w ∈ lw_tbl := in_app wl_ai wl_np
theorem wl_share : ∀ w ∈ exShare, w ∈ lw_tbl := wl_x3
theorem gT {ws : List Cond} (h : GoodIn wsL_law ws) : GoodIn lw_tbl ws := fun w hw => ⟨wsL_law_in w (h w hw).1, (h w hw).2⟩
theorem inlX0 : ∀ w ∈ wsX00, w ∈ wsL_law := fun _ h => List.mem_append_left _ (List.mem_append_left _ (List.mem_append_left _ (List.mem_append_left _ (List.mem_append_left _ (List.mem_append_left _ (List.mem_append_left _ (List.mem_append_right _ h)))))))
theorem inX0 : ∀ w ∈ wsX00, w ∈ lw_tbl := fun w h => wsL_law_in w (inlX0 w h)
theorem inlX1 : ∀ w ∈ wsX10, w ∈ wsL_law := fun _ h => List.mem_append_left _ (List.mem_append_left _ (List.mem_append_left _ (List.mem_append_left _ (List.mem_append_left _ (List.mem_append_left _ (List.mem_append_left _ (List.mem_append_left _ (List.mem_append_left _ (List.mem_append_right _ h)))))))))
theorem inX1 : ∀ w ∈ wsX10, w ∈ lw_tbl := fun w h => wsL_law_in w (inlX1 w h)
theorem inlX2 : ∀ w ∈ wsX20, w ∈ wsL_law := fun _ h => List.mem_append_left _ (List.mem_append_left _ (List.mem_append_left _ (List.mem_append_left _ (List.mem_append_left _ (List.mem_append_left _ (List.mem_append_left _ (List.mem_append_left _ (List.mem_append_right _ h))))))))
theorem inX2 : ∀ w ∈ wsX20, w ∈ lw_tbl := fun w h => wsL_law_in w (inlX2 w h)
theorem inlX3 : ∀ w ∈ wsX30, w ∈ wsL_law := fun _ h => List.mem_append_left _ (List.mem_append_left _ (List.mem_append_left _ (List.mem_append_left _ (List.mem_append_left _ (List.mem_append_left _ (List.mem_append_left _ (List.mem_append_left _ (List.mem_append_left _ (List.mem_append_left _ (List.mem_append_right _ h))))))))))
theorem inX3 : ∀ w ∈ wsX30, w ∈ lw_tbl := fun w h => wsL_law_in w (inlX3 w h)
theorem inlX4 : ∀ w ∈ wsX40, w ∈ wsL_law := fun _ h => List.mem_append_left _ (List.mem_append_left _ (List.mem_append_left _ (List.mem_append_left _ (List.mem_append_left _ (List.mem_append_left _ (List.mem_append_left _ (List.mem_append_left _ (List.mem_append_left _ (List.mem_append_left _ (List.mem_append_left _ (List.mem_append_left _ (List.mem_append_right _ h))))))))))))
theorem inX4 : ∀ w ∈ wsX40, w ∈ lw_tbl := fun w h => wsL_law_in w (inlX4 w h)
theorem inlX5 : ∀ w ∈ wsX50, w ∈ wsL_law := fun _ h => List.mem_append_left _ (List.mem_append_left _ (List.mem_append_left _ (List.mem_append_left _ (List.mem_append_left _ (List.mem_append_left _ (List.mem_append_left _ (List.mem_append_left _ (List.mem_append_left _ (List.mem_append_left _ (List.mem_append_left _ (List.mem_append_right _ h)))))))))))
theorem inX5 : ∀ w ∈ wsX50, w ∈ lw_tbl := fun w h => wsL_law_in w (inlX5 w h)
