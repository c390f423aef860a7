set_option maxRecDepth 20000 in
theorem ggL_law_X4_thrown : GoodIn wsL_law wsX4_thrown := goodIn_r _ [717, 67, 1060, 1061, 1062, 1063, 1064, 1065, 1066, 1067, 1068, 1069] (by decide +kernel) (by decide +kernel)
set_option maxRecDepth 20000 in
theorem gL_law_X4_thrown : GoodIn wsL_law (wsV RL 153 RX4 yX4_thrown wsX4_thrown) := goodIn_app (goodIn_of _ (by decide +kernel)) ggL_law_X4_thrown
set_option maxRecDepth 20000 in
theorem ggL_law_L_about : GoodIn wsL_law wsL_about := goodIn_ca (goodIn_r _ [720, 45, 721, 722, 723, 2, 724, 16, 51, 52, 53, 54, 55, 725, 726, 702, 727, 728, 729, 730, 731, 732, 733, 734, 735, 101, 102, 103, 104, 736, 737, 58, 738, 739, 740, 741, 742, 743, 60, 61, 62, 744, 1070, 1071, 1053, 1054, 1055, 1056, 1057, 1058, 1059] (by decide +kernel) (by decide +kernel)) (goodIn_sub (fun _ h => List.mem_append_left _ (List.mem_append_left _ (List.mem_append_right _ h))) (by decide +kernel))
set_option maxRecDepth 20000 in
theorem gL_law_L_about : GoodIn wsL_law (va_wsS RL 156 yL_about wsL_about) := goodIn_app (goodIn_of _ (by decide +kernel)) ggL_law_L_about
set_option maxRecDepth 20000 in
theorem ggL_law_X4_about : GoodIn wsL_law wsX4_about := goodIn_r _ [748, 67, 68, 69, 5, 70, 71, 72, 73, 109, 110, 111, 112, 598, 599, 600, 601, 34, 602, 603, 604, 33, 749, 750, 751, 85, 86, 87, 88, 89, 90, 91, 92, 93, 679, 680, 681, 113, 114, 115, 116, 117, 118, 119, 120, 121, 122, 123, 124, 125, 126, 127, 1060, 1061, 1062, 1063, 1064, 1065, 1066, 1067, 1068, 1069] (by decide +kernel) (by decide +kernel)
set_option maxRecDepth 20000 in
theorem gL_law_X4_about : GoodIn wsL_law (wsV RL 159 RX4 yX4_about wsX4_about) := goodIn_app (goodIn_of _ (by decide +kernel)) ggL_law_X4_about
set_option maxRecDepth 20000 in
theorem ggL_law_L_pick : GoodIn wsL_law wsL_pick := goodIn_ca (goodIn_r _ [754, 45, 755, 756, 757, 2, 758, 51, 52, 53, 54, 55, 576, 577, 578, 579, 16, 50, 101, 102, 103, 104, 759, 760, 58, 761, 762, 763, 702, 764, 765, 766, 767, 768, 769, 770, 771, 521, 522, 523, 1070, 1071, 1053, 1054, 1055, 1056, 1057, 1058, 1059] (by decide +kernel) (by decide +kernel)) (goodIn_sub (fun _ h => List.mem_append_left _ (List.mem_append_left _ (List.mem_append_right _ h))) (by decide +kernel))
set_option maxRecDepth 20000 in
theorem gL_law_L_pick : GoodIn wsL_law (va_wsS RL 160 yL_pick wsL_pick) := goodIn_app (goodIn_of _ (by decide +kernel)) ggL_law_L_pick
set_option maxRecDepth 20000 in
theorem ggL_law_X4_pick : GoodIn wsL_law wsX4_pick := goodIn_r _ [775, 67, 33, 68, 69, 5, 70, 71, 72, 73, 74, 75, 76, 77, 598, 599, 600, 601, 34, 602, 603, 604, 776, 777, 778, 85, 86, 87, 88, 89, 90, 91, 92, 93, 679, 680, 681, 113, 114, 115, 116, 117, 118, 119, 120, 121, 122, 123, 124, 125, 126, 127, 1060, 1061, 1062, 1063, 1064, 1065, 1066, 1067, 1068, 1069] (by decide +kernel) (by decide +kernel)
set_option maxRecDepth 20000 in
theorem gL_law_X4_pick : GoodIn wsL_law (wsV RL 162 RX4 yX4_pick wsX4_pick) := goodIn_app (goodIn_of _ (by decide +kernel)) ggL_law_X4_pick
set_option maxRecDepth 20000 in
theorem ggL_law_L_join : GoodIn wsL_law wsL_join := goodIn_ca (goodIn_ca (goodIn_r _ [781, 45, 131, 782, 783, 784, 2, 785, 786, 787, 231, 788, 789, 790, 791, 51, 52, 53, 54, 55, 468, 469, 470, 137, 138, 572, 573, 574, 575, 16, 521, 522, 523, 101, 102, 103, 104, 1070, 1071, 1053, 1054, 1055, 1056, 1057, 1058, 1059] (by decide +kernel) (by decide +kernel)) (goodIn_sub (fun _ h => List.mem_append_left _ (List.mem_append_left _ (List.mem_append_right _ h))) (by decide +kernel))) (goodIn_sub (fun _ h => List.mem_append_left _ (List.mem_append_right _ h)) (by decide +kernel))
set_option maxRecDepth 20000 in
theorem gL_law_L_join : GoodIn wsL_law (va_wsS RL 163 yL_join wsL_join) := goodIn_app (goodIn_of _ (by decide +kernel)) ggL_law_L_join
set_option maxRecDepth 20000 in
theorem ggL_law_X4_join : GoodIn wsL_law wsX4_join := goodIn_r _ [795, 67, 68, 69, 5, 70, 71, 72, 73, 109, 110, 111, 112, 598, 599, 600, 601, 34, 602, 603, 604, 33, 796, 797, 798, 121, 122, 123, 124, 676, 677, 678, 673, 674, 675, 81, 113, 114, 115, 116, 117, 118, 119, 120, 125, 126, 127, 1060, 1061, 1062, 1063, 1064, 1065, 1066, 1067, 1068, 1069] (by decide +kernel) (by decide +kernel)
set_option maxRecDepth 20000 in
theorem gL_law_X4_join : GoodIn wsL_law (wsV RL 166 RX4 yX4_join wsX4_join) := goodIn_app (goodIn_of _ (by decide +kernel)) ggL_law_X4_join
set_option maxRecDepth 20000 in
theorem ggL_law_X2_knock : GoodIn wsL_law wsX2_knock := goodIn_r _ [802, 803, 1053, 1054, 1055, 1056, 1057, 1058, 1059] (by decide +kernel) (by decide +kernel)
set_option maxRecDepth 20000 in
theorem gL_law_X2_knock : GoodIn wsL_law (wsV RL 167 RX2 yX2_knock wsX2_knock) := goodIn_app (goodIn_of _ (by decide +kernel)) ggL_law_X2_knock
set_option maxRecDepth 20000 in
theorem ggL_law_X4_knock : GoodIn wsL_law wsX4_knock := goodIn_r _ [807, 67, 808, 1060, 1061, 1062, 1063, 1064, 1065, 1066, 1067, 1068, 1069] (by decide +kernel) (by decide +kernel)
set_option maxRecDepth 20000 in
theorem gL_law_X4_knock : GoodIn wsL_law (wsV RL 170 RX4 yX4_knock wsX4_knock) := goodIn_app (goodIn_of _ (by decide +kernel)) ggL_law_X4_knock
set_option maxRecDepth 20000 in
theorem ggL_law_L_high : GoodIn wsL_law wsL_high := goodIn_ca (goodIn_r _ [811, 45, 812, 813, 814, 2, 815, 16, 51, 52, 53, 54, 55, 816, 817, 818, 1070, 1071, 1053, 1054, 1055, 1056, 1057, 1058, 1059] (by decide +kernel) (by decide +kernel)) (goodIn_sub (fun _ h => List.mem_append_left _ (List.mem_append_left _ (List.mem_append_right _ h))) (by decide +kernel))
set_option maxRecDepth 20000 in
theorem gL_law_L_high : GoodIn wsL_law (va_wsS RL 171 yL_high wsL_high) := goodIn_app (goodIn_of _ (by decide +kernel)) ggL_law_L_high
set_option maxRecDepth 20000 in
theorem ggL_law_X4_high : GoodIn wsL_law wsX4_high := goodIn_r _ [822, 67, 34, 68, 69, 5, 70, 71, 72, 73, 823, 824, 825, 124, 81, 74, 75, 76, 77, 1060, 1061, 1062, 1063, 1064, 1065, 1066, 1067, 1068, 1069] (by decide +kernel) (by decide +kernel)
set_option maxRecDepth 20000 in
theorem gL_law_X4_high : GoodIn wsL_law (wsV RL 174 RX4 yX4_high wsX4_high) := goodIn_app (goodIn_of _ (by decide +kernel)) ggL_law_X4_high
set_option maxRecDepth 20000 in
theorem ggL_law_L_low : GoodIn wsL_law wsL_low := goodIn_ca (goodIn_r _ [828, 45, 829, 830, 831, 2, 832, 16, 51, 52, 53, 54, 55, 1070, 1071, 1053, 1054, 1055, 1056, 1057, 1058, 1059] (by decide +kernel) (by decide +kernel)) (goodIn_sub (fun _ h => List.mem_append_left _ (List.mem_append_left _ (List.mem_append_right _ h))) (by decide +kernel))
set_option maxRecDepth 20000 in
theorem gL_law_L_low : GoodIn wsL_law (va_wsS RL 175 yL_low wsL_low) := goodIn_app (goodIn_of _ (by decide +kernel)) ggL_law_L_low
set_option maxRecDepth 20000 in
theorem ggL_law_X4_low : GoodIn wsL_law wsX4_low := goodIn_r _ [836, 67, 34, 68, 69, 5, 70, 71, 72, 73, 823, 824, 825, 124, 81, 74, 75, 76, 77, 1060, 1061, 1062, 1063, 1064, 1065, 1066, 1067, 1068, 1069] (by decide +kernel) (by decide +kernel)
set_option maxRecDepth 20000 in
theorem gL_law_X4_low : GoodIn wsL_law (wsV RL 177 RX4 yX4_low wsX4_low) := goodIn_app (goodIn_of _ (by decide +kernel)) ggL_law_X4_low
set_option maxRecDepth 20000 in
theorem ggL_law_L_count : GoodIn wsL_law wsL_count := goodIn_ca (goodIn_ca (goodIn_r _ [839, 45, 131, 840, 841, 842, 2, 843, 16, 51, 52, 53, 54, 55, 468, 469, 470, 137, 138, 844, 845, 846, 847, 848, 702, 849, 732, 733, 734, 850, 763, 764, 765, 851, 770, 771, 852, 853, 854, 855, 856, 857, 56, 57, 58, 59, 60, 61, 62, 759, 760, 761, 762, 766, 767, 768, 769, 858, 859, 860, 1070, 1071, 1053, 1054, 1055, 1056, 1057, 1058, 1059] (by decide +kernel) (by decide +kernel)) (goodIn_sub (fun _ h => List.mem_append_left _ (List.mem_append_left _ (List.mem_append_right _ h))) (by decide +kernel))) (goodIn_sub (fun _ h => List.mem_append_left _ (List.mem_append_right _ h)) (by decide +kernel))
set_option maxRecDepth 20000 in
theorem gL_law_L_count : GoodIn wsL_law (va_wsS RL 178 yL_count wsL_count) := goodIn_app (goodIn_of _ (by decide +kernel)) ggL_law_L_count
set_option maxRecDepth 20000 in
theorem ggL_law_X4_count_ : GoodIn wsL_law wsX4_count_ := goodIn_r _ [864, 67, 68, 69, 5, 70, 71, 72, 73, 74, 75, 76, 77, 865, 866, 867, 868, 598, 599, 600, 601, 34, 602, 603, 604, 33, 82, 83, 84, 85, 86, 87, 88, 89, 90, 91, 92, 93, 776, 777, 778, 617, 618, 619, 121, 122, 123, 124, 1060, 1061, 1062, 1063, 1064, 1065, 1066, 1067, 1068, 1069] (by decide +kernel) (by decide +kernel)
set_option maxRecDepth 20000 in
theorem gL_law_X4_count_ : GoodIn wsL_law (wsV RL 180 RX4 yX4_count_ wsX4_count_) := goodIn_app (goodIn_of _ (by decide +kernel)) ggL_law_X4_count_
set_option maxRecDepth 20000 in
theorem ggL_law_L_compare : GoodIn wsL_law wsL_compare := goodIn_ca (goodIn_r _ [871, 45, 872, 873, 874, 2, 875, 51, 52, 53, 54, 55, 576, 577, 578, 579, 16, 50, 572, 573, 574, 575, 521, 522, 523, 876, 503, 500, 504, 505, 1070, 1071, 1053, 1054, 1055, 1056, 1057, 1058, 1059] (by decide +kernel) (by decide +kernel)) (goodIn_sub (fun _ h => List.mem_append_left _ (List.mem_append_left _ (List.mem_append_right _ h))) (by decide +kernel))
set_option maxRecDepth 20000 in
theorem gL_law_L_compare : GoodIn wsL_law (va_wsS RL 181 yL_compare wsL_compare) := goodIn_app (goodIn_of _ (by decide +kernel)) ggL_law_L_compare
