set_option maxRecDepth 20000 in
theorem ggL_law_L_pick : GoodIn wsL_law wsL_pick := goodIn_ca (goodIn_r _ [750, 45, 751, 752, 753, 2, 754, 51, 52, 53, 54, 55, 576, 577, 578, 579, 16, 50, 101, 102, 103, 104, 755, 756, 58, 757, 758, 759, 702, 760, 761, 762, 763, 764, 765, 766, 767, 521, 522, 523, 1070, 1071, 1053, 1054, 1055, 1056, 1057, 1058, 1059] (by decide +kernel) (by decide +kernel)) (goodIn_sub (fun _ h => List.mem_append_left _ (List.mem_append_left _ (List.mem_append_right _ h))) (by decide +kernel))
set_option maxRecDepth 20000 in
theorem gL_law_L_pick : GoodIn wsL_law (va_wsS RL 157 yL_pick wsL_pick) := goodIn_app (goodIn_of _ (by decide +kernel)) ggL_law_L_pick
set_option maxRecDepth 20000 in
theorem ggL_law_X4_pick : GoodIn wsL_law wsX4_pick := goodIn_r _ [771, 67, 33, 68, 69, 5, 70, 71, 72, 73, 74, 75, 76, 77, 598, 599, 600, 601, 34, 602, 603, 604, 772, 773, 774, 85, 86, 87, 88, 89, 90, 91, 92, 93, 679, 680, 681, 113, 114, 115, 116, 117, 118, 119, 120, 121, 122, 123, 124, 125, 126, 127, 1060, 1061, 1062, 1063, 1064, 1065, 1066, 1067, 1068, 1069] (by decide +kernel) (by decide +kernel)
set_option maxRecDepth 20000 in
theorem gL_law_X4_pick : GoodIn wsL_law (wsV RL 159 RX4 yX4_pick wsX4_pick) := goodIn_app (goodIn_of _ (by decide +kernel)) ggL_law_X4_pick
set_option maxRecDepth 20000 in
theorem ggL_law_L_join : GoodIn wsL_law wsL_join := goodIn_ca (goodIn_ca (goodIn_r _ [777, 45, 131, 778, 779, 780, 2, 781, 782, 783, 231, 784, 785, 786, 787, 51, 52, 53, 54, 55, 468, 469, 470, 137, 138, 572, 573, 574, 575, 16, 521, 522, 523, 101, 102, 103, 104, 1070, 1071, 1053, 1054, 1055, 1056, 1057, 1058, 1059] (by decide +kernel) (by decide +kernel)) (goodIn_sub (fun _ h => List.mem_append_left _ (List.mem_append_left _ (List.mem_append_right _ h))) (by decide +kernel))) (goodIn_sub (fun _ h => List.mem_append_left _ (List.mem_append_right _ h)) (by decide +kernel))
set_option maxRecDepth 20000 in
theorem gL_law_L_join : GoodIn wsL_law (va_wsS RL 160 yL_join wsL_join) := goodIn_app (goodIn_of _ (by decide +kernel)) ggL_law_L_join
set_option maxRecDepth 20000 in
theorem ggL_law_X4_join : GoodIn wsL_law wsX4_join := goodIn_r _ [791, 67, 68, 69, 5, 70, 71, 72, 73, 109, 110, 111, 112, 598, 599, 600, 601, 34, 602, 603, 604, 33, 792, 793, 794, 121, 122, 123, 124, 676, 677, 678, 673, 674, 675, 81, 113, 114, 115, 116, 117, 118, 119, 120, 125, 126, 127, 1060, 1061, 1062, 1063, 1064, 1065, 1066, 1067, 1068, 1069] (by decide +kernel) (by decide +kernel)
set_option maxRecDepth 20000 in
theorem gL_law_X4_join : GoodIn wsL_law (wsV RL 163 RX4 yX4_join wsX4_join) := goodIn_app (goodIn_of _ (by decide +kernel)) ggL_law_X4_join
set_option maxRecDepth 20000 in
theorem ggL_law_X2_knock : GoodIn wsL_law wsX2_knock := goodIn_r _ [798, 799, 1053, 1054, 1055, 1056, 1057, 1058, 1059] (by decide +kernel) (by decide +kernel)
set_option maxRecDepth 20000 in
theorem gL_law_X2_knock : GoodIn wsL_law (wsV RL 164 RX2 yX2_knock wsX2_knock) := goodIn_app (goodIn_of _ (by decide +kernel)) ggL_law_X2_knock
set_option maxRecDepth 20000 in
theorem ggL_law_X4_knock : GoodIn wsL_law wsX4_knock := goodIn_r _ [803, 67, 804, 1060, 1061, 1062, 1063, 1064, 1065, 1066, 1067, 1068, 1069] (by decide +kernel) (by decide +kernel)
set_option maxRecDepth 20000 in
theorem gL_law_X4_knock : GoodIn wsL_law (wsV RL 167 RX4 yX4_knock wsX4_knock) := goodIn_app (goodIn_of _ (by decide +kernel)) ggL_law_X4_knock
set_option maxRecDepth 20000 in
theorem ggL_law_L_high : GoodIn wsL_law wsL_high := goodIn_ca (goodIn_r _ [807, 45, 808, 809, 810, 2, 811, 16, 51, 52, 53, 54, 55, 812, 813, 814, 1070, 1071, 1053, 1054, 1055, 1056, 1057, 1058, 1059] (by decide +kernel) (by decide +kernel)) (goodIn_sub (fun _ h => List.mem_append_left _ (List.mem_append_left _ (List.mem_append_right _ h))) (by decide +kernel))
set_option maxRecDepth 20000 in
theorem gL_law_L_high : GoodIn wsL_law (va_wsS RL 168 yL_high wsL_high) := goodIn_app (goodIn_of _ (by decide +kernel)) ggL_law_L_high
set_option maxRecDepth 20000 in
theorem ggL_law_X4_high : GoodIn wsL_law wsX4_high := goodIn_r _ [818, 67, 34, 68, 69, 5, 70, 71, 72, 73, 819, 820, 821, 124, 81, 74, 75, 76, 77, 1060, 1061, 1062, 1063, 1064, 1065, 1066, 1067, 1068, 1069] (by decide +kernel) (by decide +kernel)
set_option maxRecDepth 20000 in
theorem gL_law_X4_high : GoodIn wsL_law (wsV RL 171 RX4 yX4_high wsX4_high) := goodIn_app (goodIn_of _ (by decide +kernel)) ggL_law_X4_high
set_option maxRecDepth 20000 in
theorem ggL_law_L_low : GoodIn wsL_law wsL_low := goodIn_ca (goodIn_r _ [824, 45, 825, 826, 827, 2, 828, 16, 51, 52, 53, 54, 55, 1070, 1071, 1053, 1054, 1055, 1056, 1057, 1058, 1059] (by decide +kernel) (by decide +kernel)) (goodIn_sub (fun _ h => List.mem_append_left _ (List.mem_append_left _ (List.mem_append_right _ h))) (by decide +kernel))
set_option maxRecDepth 20000 in
theorem gL_law_L_low : GoodIn wsL_law (va_wsS RL 172 yL_low wsL_low) := goodIn_app (goodIn_of _ (by decide +kernel)) ggL_law_L_low
set_option maxRecDepth 20000 in
theorem ggL_law_X4_low : GoodIn wsL_law wsX4_low := goodIn_r _ [832, 67, 34, 68, 69, 5, 70, 71, 72, 73, 819, 820, 821, 124, 81, 74, 75, 76, 77, 1060, 1061, 1062, 1063, 1064, 1065, 1066, 1067, 1068, 1069] (by decide +kernel) (by decide +kernel)
set_option maxRecDepth 20000 in
theorem gL_law_X4_low : GoodIn wsL_law (wsV RL 174 RX4 yX4_low wsX4_low) := goodIn_app (goodIn_of _ (by decide +kernel)) ggL_law_X4_low
set_option maxRecDepth 20000 in
theorem ggL_law_L_count : GoodIn wsL_law wsL_count := goodIn_ca (goodIn_ca (goodIn_r _ [835, 45, 131, 836, 837, 838, 2, 839, 16, 51, 52, 53, 54, 55, 468, 469, 470, 137, 138, 840, 841, 842, 843, 844, 702, 845, 728, 729, 730, 846, 759, 760, 761, 847, 766, 767, 848, 849, 850, 851, 852, 853, 56, 57, 58, 59, 60, 61, 62, 755, 756, 757, 758, 762, 763, 764, 765, 854, 855, 856, 1070, 1071, 1053, 1054, 1055, 1056, 1057, 1058, 1059] (by decide +kernel) (by decide +kernel)) (goodIn_sub (fun _ h => List.mem_append_left _ (List.mem_append_left _ (List.mem_append_right _ h))) (by decide +kernel))) (goodIn_sub (fun _ h => List.mem_append_left _ (List.mem_append_right _ h)) (by decide +kernel))
set_option maxRecDepth 20000 in
theorem gL_law_L_count : GoodIn wsL_law (va_wsS RL 175 yL_count wsL_count) := goodIn_app (goodIn_of _ (by decide +kernel)) ggL_law_L_count
set_option maxRecDepth 20000 in
theorem ggL_law_X4_count_ : GoodIn wsL_law wsX4_count_ := goodIn_r _ [860, 67, 68, 69, 5, 70, 71, 72, 73, 74, 75, 76, 77, 861, 862, 863, 864, 598, 599, 600, 601, 34, 602, 603, 604, 33, 82, 83, 84, 85, 86, 87, 88, 89, 90, 91, 92, 93, 772, 773, 774, 617, 618, 619, 121, 122, 123, 124, 1060, 1061, 1062, 1063, 1064, 1065, 1066, 1067, 1068, 1069] (by decide +kernel) (by decide +kernel)
set_option maxRecDepth 20000 in
theorem gL_law_X4_count_ : GoodIn wsL_law (wsV RL 177 RX4 yX4_count_ wsX4_count_) := goodIn_app (goodIn_of _ (by decide +kernel)) ggL_law_X4_count_
set_option maxRecDepth 20000 in
theorem ggL_law_L_compare : GoodIn wsL_law wsL_compare := goodIn_ca (goodIn_r _ [867, 45, 868, 869, 870, 2, 871, 51, 52, 53, 54, 55, 576, 577, 578, 579, 16, 50, 572, 573, 574, 575, 521, 522, 523, 872, 503, 500, 504, 505, 1070, 1071, 1053, 1054, 1055, 1056, 1057, 1058, 1059] (by decide +kernel) (by decide +kernel)) (goodIn_sub (fun _ h => List.mem_append_left _ (List.mem_append_left _ (List.mem_append_right _ h))) (by decide +kernel))
set_option maxRecDepth 20000 in
theorem gL_law_L_compare : GoodIn wsL_law (va_wsS RL 178 yL_compare wsL_compare) := goodIn_app (goodIn_of _ (by decide +kernel)) ggL_law_L_compare
set_option maxRecDepth 20000 in
theorem ggL_law_X4_compare_ : GoodIn wsL_law wsX4_compare_ := goodIn_r _ [876, 67, 68, 69, 5, 70, 71, 72, 73, 74, 75, 76, 77, 598, 599, 600, 601, 34, 602, 603, 604, 33, 676, 677, 678, 792, 793, 794, 121, 122, 123, 124, 1060, 1061, 1062, 1063, 1064, 1065, 1066, 1067, 1068, 1069] (by decide +kernel) (by decide +kernel)
set_option maxRecDepth 20000 in
theorem gL_law_X4_compare_ : GoodIn wsL_law (wsV RL 181 RX4 yX4_compare_ wsX4_compare_) := goodIn_app (goodIn_of _ (by decide +kernel)) ggL_law_X4_compare_
set_option maxRecDepth 20000 in
theorem ggL_law_X4_thrown : GoodIn wsL_law wsX4_thrown := goodIn_r _ [880, 67, 1060, 1061, 1062, 1063, 1064, 1065, 1066, 1067, 1068, 1069] (by decide +kernel) (by decide +kernel)
set_option maxRecDepth 20000 in
theorem gL_law_X4_thrown : GoodIn wsL_law (wsV RL 182 RX4 yX4_thrown wsX4_thrown) := goodIn_app (goodIn_of _ (by decide +kernel)) ggL_law_X4_thrown
set_option maxRecDepth 20000 in
theorem ggL_law_X2_text : GoodIn wsL_law wsX2_text := goodIn_r _ [884, 20, 885, 886, 887, 19, 888, 889, 162, 163, 145, 27, 890, 180, 181, 182, 183, 184, 185, 186, 13, 14, 187, 188, 189, 190, 191, 192, 193, 194, 195, 196, 197, 198, 891, 322, 323, 324, 325, 326, 205, 327, 328, 208, 214, 215, 216, 217, 218, 219, 220, 221, 222, 223, 224, 225, 226, 227, 228, 229, 230, 231, 232, 233, 234, 235, 236, 237, 238, 239, 240, 241, 242, 243, 244, 245, 246, 247, 248, 249, 250, 251, 252, 253, 254, 255, 256, 257, 258, 329, 330, 301, 331, 294, 295, 296, 297, 298, 299, 300, 302, 303, 304, 305, 306, 307, 308, 266, 267, 268, 309, 310, 167, 311, 272, 312, 313, 275, 314, 277, 278, 279, 262, 280, 281, 332, 333, 334, 335, 336, 337, 338, 339, 340, 341, 342, 343, 892, 345, 346, 347, 348, 349, 350, 351, 352, 353, 354, 355, 356, 175, 169, 174, 357, 358, 359, 360, 361, 362, 363, 364, 365, 366, 367, 368, 369, 370, 371, 372, 373, 374, 375, 376, 377, 378, 379, 380, 381, 382, 383, 384, 385, 386, 387, 388, 389, 390, 391, 392, 393, 394, 395, 1053, 1054, 1055, 1056, 1057, 1058, 1059, 1074, 1075, 1076, 1077, 1072, 1073, 1078, 1079, 1080, 1081] (by decide +kernel) (by decide +kernel)
set_option maxRecDepth 20000 in
theorem gL_law_X2_text : GoodIn wsL_law (wsV RL 185 RX2 yX2_text wsX2_text) := goodIn_app (goodIn_of _ (by decide +kernel)) ggL_law_X2_text
set_option maxRecDepth 20000 in
theorem ggL_law_X4_text : GoodIn wsL_law wsX4_text := goodIn_r _ [896, 67, 35, 1060, 1061, 1062, 1063, 1064, 1065, 1066, 1067, 1068, 1069] (by decide +kernel) (by decide +kernel)
set_option maxRecDepth 20000 in
theorem gL_law_X4_text : GoodIn wsL_law (wsV RL 189 RX4 yX4_text wsX4_text) := goodIn_app (goodIn_of _ (by decide +kernel)) ggL_law_X4_text
