set_option maxRecDepth 20000 in
theorem ggL_law_L_pick : GoodIn wsL_law wsL_pick := goodIn_ca (goodIn_r _ [754, 45, 755, 756, 757, 2, 758, 51, 52, 53, 54, 55, 576, 577, 578, 579, 16, 50, 101, 102, 103, 104, 759, 760, 58, 761, 762, 763, 706, 764, 765, 766, 767, 768, 769, 770, 771, 521, 522, 523, 1070, 1071, 1053, 1054, 1055, 1056, 1057, 1058, 1059] (by decide +kernel) (by decide +kernel)) (goodIn_sub (fun _ h => List.mem_append_left _ (List.mem_append_left _ (List.mem_append_right _ h))) (by decide +kernel))
set_option maxRecDepth 20000 in
theorem gL_law_L_pick : GoodIn wsL_law (va_wsS RL 160 yL_pick wsL_pick) := goodIn_app (goodIn_of _ (by decide +kernel)) ggL_law_L_pick
set_option maxRecDepth 20000 in
theorem ggL_law_X4_pick : GoodIn wsL_law wsX4_pick := goodIn_r _ [775, 67, 33, 68, 69, 5, 70, 71, 72, 73, 74, 75, 76, 77, 598, 599, 600, 601, 34, 602, 603, 604, 776, 777, 778, 85, 86, 87, 88, 89, 90, 91, 92, 93, 679, 680, 681, 113, 114, 115, 116, 117, 118, 119, 120, 121, 122, 123, 124, 125, 126, 127, 1060, 1061, 1062, 1063, 1064, 1065, 1066, 1067, 1068, 1069] (by decide +kernel) (by decide +kernel)
set_option maxRecDepth 20000 in
theorem gL_law_X4_pick : GoodIn wsL_law (wsV RL 162 RX4 yX4_pick wsX4_pick) := goodIn_app (goodIn_of _ (by decide +kernel)) ggL_law_X4_pick
set_option maxRecDepth 20000 in
theorem ggL_law_L_join : GoodIn wsL_law wsL_join := goodIn_ca (goodIn_ca (goodIn_r _ [781, 45, 131, 782, 783, 784, 2, 785, 786, 787, 231, 788, 789, 790, 791, 51, 52, 53, 54, 55, 468, 469, 470, 137, 138, 572, 573, 574, 575, 16, 521, 522, 523, 101, 102, 103, 104, 1070, 1071, 1053, 1054, 1055, 1056, 1057, 1058, 1059] (by decide +kernel) (by decide +kernel)) (goodIn_sub (fun _ h => List.mem_append_left _ (List.mem_append_left _ (List.mem_append_right _ h))) (by decide +kernel))) (goodIn_sub (fun _ h => List.mem_append_left _ (List.mem_append_right _ h)) (by decide +kernel))
set_option maxRecDepth 20000 in
theorem gL_law_L_join : GoodIn wsL_law (va_wsS RL 163 yL_join wsL_join) := goodIn_app (goodIn_of _ (by decide +kernel)) ggL_law_L_join
set_option maxRecDepth 20000 in
theorem ggL_law_X4_join : GoodIn wsL_law wsX4_join := goodIn_r _ [795, 67, 68, 69, 5, 70, 71, 72, 73, 109, 110, 111, 112, 598, 599, 600, 601, 34, 602, 603, 604, 33, 796, 797, 798, 121, 122, 123, 124, 676, 677, 678, 673, 674, 675, 81, 113, 114, 115, 116, 117, 118, 119, 120, 125, 126, 127, 1060, 1061, 1062, 1063, 1064, 1065, 1066, 1067, 1068, 1069] (by decide +kernel) (by decide +kernel)
set_option maxRecDepth 20000 in
theorem gL_law_X4_join : GoodIn wsL_law (wsV RL 166 RX4 yX4_join wsX4_join) := goodIn_app (goodIn_of _ (by decide +kernel)) ggL_law_X4_join
set_option maxRecDepth 20000 in
theorem ggL_law_X2_knock : GoodIn wsL_law wsX2_knock := goodIn_r _ [802, 803, 1053, 1054, 1055, 1056, 1057, 1058, 1059] (by decide +kernel) (by decide +kernel)
set_option maxRecDepth 20000 in
theorem gL_law_X2_knock : GoodIn wsL_law (wsV RL 167 RX2 yX2_knock wsX2_knock) := goodIn_app (goodIn_of _ (by decide +kernel)) ggL_law_X2_knock
set_option maxRecDepth 20000 in
theorem ggL_law_X4_knock : GoodIn wsL_law wsX4_knock := goodIn_r _ [807, 67, 808, 1060, 1061, 1062, 1063, 1064, 1065, 1066, 1067, 1068, 1069] (by decide +kernel) (by decide +kernel)
set_option maxRecDepth 20000 in
theorem gL_law_X4_knock : GoodIn wsL_law (wsV RL 170 RX4 yX4_knock wsX4_knock) := goodIn_app (goodIn_of _ (by decide +kernel)) ggL_law_X4_knock
set_option maxRecDepth 20000 in
theorem ggL_law_L_high : GoodIn wsL_law wsL_high := goodIn_ca (goodIn_r _ [811, 45, 812, 813, 814, 2, 815, 16, 51, 52, 53, 54, 55, 816, 817, 818, 1070, 1071, 1053, 1054, 1055, 1056, 1057, 1058, 1059] (by decide +kernel) (by decide +kernel)) (goodIn_sub (fun _ h => List.mem_append_left _ (List.mem_append_left _ (List.mem_append_right _ h))) (by decide +kernel))
set_option maxRecDepth 20000 in
theorem gL_law_L_high : GoodIn wsL_law (va_wsS RL 171 yL_high wsL_high) := goodIn_app (goodIn_of _ (by decide +kernel)) ggL_law_L_high
set_option maxRecDepth 20000 in
theorem ggL_law_X4_high : GoodIn wsL_law wsX4_high := goodIn_r _ [822, 67, 34, 68, 69, 5, 70, 71, 72, 73, 823, 824, 825, 124, 81, 74, 75, 76, 77, 1060, 1061, 1062, 1063, 1064, 1065, 1066, 1067, 1068, 1069] (by decide +kernel) (by decide +kernel)
set_option maxRecDepth 20000 in
theorem gL_law_X4_high : GoodIn wsL_law (wsV RL 174 RX4 yX4_high wsX4_high) := goodIn_app (goodIn_of _ (by decide +kernel)) ggL_law_X4_high
set_option maxRecDepth 20000 in
theorem ggL_law_L_low : GoodIn wsL_law wsL_low := goodIn_ca (goodIn_r _ [828, 45, 829, 830, 831, 2, 832, 16, 51, 52, 53, 54, 55, 1070, 1071, 1053, 1054, 1055, 1056, 1057, 1058, 1059] (by decide +kernel) (by decide +kernel)) (goodIn_sub (fun _ h => List.mem_append_left _ (List.mem_append_left _ (List.mem_append_right _ h))) (by decide +kernel))
set_option maxRecDepth 20000 in
theorem gL_law_L_low : GoodIn wsL_law (va_wsS RL 175 yL_low wsL_low) := goodIn_app (goodIn_of _ (by decide +kernel)) ggL_law_L_low
set_option maxRecDepth 20000 in
theorem ggL_law_X4_low : GoodIn wsL_law wsX4_low := goodIn_r _ [836, 67, 34, 68, 69, 5, 70, 71, 72, 73, 823, 824, 825, 124, 81, 74, 75, 76, 77, 1060, 1061, 1062, 1063, 1064, 1065, 1066, 1067, 1068, 1069] (by decide +kernel) (by decide +kernel)
set_option maxRecDepth 20000 in
theorem gL_law_X4_low : GoodIn wsL_law (wsV RL 177 RX4 yX4_low wsX4_low) := goodIn_app (goodIn_of _ (by decide +kernel)) ggL_law_X4_low
set_option maxRecDepth 20000 in
theorem ggL_law_L_count : GoodIn wsL_law wsL_count := goodIn_ca (goodIn_ca (goodIn_r _ [839, 45, 131, 840, 841, 842, 2, 843, 16, 51, 52, 53, 54, 55, 468, 469, 470, 137, 138, 844, 845, 846, 847, 848, 706, 849, 732, 733, 734, 850, 763, 764, 765, 851, 770, 771, 852, 853, 854, 855, 856, 857, 56, 57, 58, 59, 60, 61, 62, 759, 760, 761, 762, 766, 767, 768, 769, 858, 859, 860, 1070, 1071, 1053, 1054, 1055, 1056, 1057, 1058, 1059] (by decide +kernel) (by decide +kernel)) (goodIn_sub (fun _ h => List.mem_append_left _ (List.mem_append_left _ (List.mem_append_right _ h))) (by decide +kernel))) (goodIn_sub (fun _ h => List.mem_append_left _ (List.mem_append_right _ h)) (by decide +kernel))
set_option maxRecDepth 20000 in
theorem gL_law_L_count : GoodIn wsL_law (va_wsS RL 178 yL_count wsL_count) := goodIn_app (goodIn_of _ (by decide +kernel)) ggL_law_L_count
set_option maxRecDepth 20000 in
theorem ggL_law_X4_count_ : GoodIn wsL_law wsX4_count_ := goodIn_r _ [864, 67, 68, 69, 5, 70, 71, 72, 73, 74, 75, 76, 77, 865, 866, 867, 868, 598, 599, 600, 601, 34, 602, 603, 604, 33, 82, 83, 84, 85, 86, 87, 88, 89, 90, 91, 92, 93, 776, 777, 778, 617, 618, 619, 121, 122, 123, 124, 1060, 1061, 1062, 1063, 1064, 1065, 1066, 1067, 1068, 1069] (by decide +kernel) (by decide +kernel)
set_option maxRecDepth 20000 in
theorem gL_law_X4_count_ : GoodIn wsL_law (wsV RL 180 RX4 yX4_count_ wsX4_count_) := goodIn_app (goodIn_of _ (by decide +kernel)) ggL_law_X4_count_
set_option maxRecDepth 20000 in
theorem ggL_law_L_compare : GoodIn wsL_law wsL_compare := goodIn_ca (goodIn_r _ [871, 45, 872, 873, 874, 2, 875, 51, 52, 53, 54, 55, 576, 577, 578, 579, 16, 50, 572, 573, 574, 575, 521, 522, 523, 876, 503, 500, 504, 505, 1070, 1071, 1053, 1054, 1055, 1056, 1057, 1058, 1059] (by decide +kernel) (by decide +kernel)) (goodIn_sub (fun _ h => List.mem_append_left _ (List.mem_append_left _ (List.mem_append_right _ h))) (by decide +kernel))
set_option maxRecDepth 20000 in
theorem gL_law_L_compare : GoodIn wsL_law (va_wsS RL 181 yL_compare wsL_compare) := goodIn_app (goodIn_of _ (by decide +kernel)) ggL_law_L_compare
set_option maxRecDepth 20000 in
theorem ggL_law_X4_compare_ : GoodIn wsL_law wsX4_compare_ := goodIn_r _ [880, 67, 68, 69, 5, 70, 71, 72, 73, 74, 75, 76, 77, 598, 599, 600, 601, 34, 602, 603, 604, 33, 676, 677, 678, 796, 797, 798, 121, 122, 123, 124, 1060, 1061, 1062, 1063, 1064, 1065, 1066, 1067, 1068, 1069] (by decide +kernel) (by decide +kernel)
set_option maxRecDepth 20000 in
theorem gL_law_X4_compare_ : GoodIn wsL_law (wsV RL 184 RX4 yX4_compare_ wsX4_compare_) := goodIn_app (goodIn_of _ (by decide +kernel)) ggL_law_X4_compare_
set_option maxRecDepth 20000 in
theorem ggL_law_X2_text : GoodIn wsL_law wsX2_text := goodIn_r _ [884, 20, 885, 886, 887, 19, 888, 889, 162, 163, 145, 27, 890, 180, 181, 182, 183, 184, 185, 186, 13, 14, 187, 188, 189, 190, 191, 192, 193, 194, 195, 196, 197, 198, 891, 322, 323, 324, 325, 326, 205, 327, 328, 208, 214, 215, 216, 217, 218, 219, 220, 221, 222, 223, 224, 225, 226, 227, 228, 229, 230, 231, 232, 233, 234, 235, 236, 237, 238, 239, 240, 241, 242, 243, 244, 245, 246, 247, 248, 249, 250, 251, 252, 253, 254, 255, 256, 257, 258, 329, 330, 301, 331, 294, 295, 296, 297, 298, 299, 300, 302, 303, 304, 305, 306, 307, 308, 266, 267, 268, 309, 310, 167, 311, 272, 312, 313, 275, 314, 277, 278, 279, 262, 280, 281, 332, 333, 334, 335, 336, 337, 338, 339, 340, 341, 342, 343, 892, 345, 346, 347, 348, 349, 350, 351, 352, 353, 354, 355, 356, 175, 169, 174, 357, 358, 359, 360, 361, 362, 363, 364, 365, 366, 367, 368, 369, 370, 371, 372, 373, 374, 375, 376, 377, 378, 379, 380, 381, 382, 383, 384, 385, 386, 387, 388, 389, 390, 391, 392, 393, 394, 395, 1053, 1054, 1055, 1056, 1057, 1058, 1059, 1074, 1075, 1076, 1077, 1072, 1073, 1078, 1079, 1080, 1081] (by decide +kernel) (by decide +kernel)
set_option maxRecDepth 20000 in
theorem gL_law_X2_text : GoodIn wsL_law (wsV RL 185 RX2 yX2_text wsX2_text) := goodIn_app (goodIn_of _ (by decide +kernel)) ggL_law_X2_text
set_option maxRecDepth 20000 in
theorem ggL_law_X4_text : GoodIn wsL_law wsX4_text := goodIn_r _ [896, 67, 35, 1060, 1061, 1062, 1063, 1064, 1065, 1066, 1067, 1068, 1069] (by decide +kernel) (by decide +kernel)
set_option maxRecDepth 20000 in
theorem gL_law_X4_text : GoodIn wsL_law (wsV RL 189 RX4 yX4_text wsX4_text) := goodIn_app (goodIn_of _ (by decide +kernel)) ggL_law_X4_text
set_option maxRecDepth 20000 in
theorem ggL_law_L_digit : GoodIn wsL_law wsL_digit := goodIn_ca (goodIn_ca (goodIn_r _ [899, 45, 131, 900, 901, 902, 2, 903, 54, 55, 20, 153, 154, 155, 19, 156, 145, 465, 466, 467, 137, 138, 904, 507, 508, 509, 27, 510, 511, 512, 1070, 1071, 1053, 1054, 1055, 1056, 1057, 1058, 1059, 1072, 1073] (by decide +kernel) (by decide +kernel)) (goodIn_sub (fun _ h => List.mem_append_left _ (List.mem_append_left _ (List.mem_append_right _ h))) (by decide +kernel))) (goodIn_sub (fun _ h => List.mem_append_left _ (List.mem_append_right _ h)) (by decide +kernel))
set_option maxRecDepth 20000 in
theorem gL_law_L_digit : GoodIn wsL_law (va_wsS RL 190 yL_digit wsL_digit) := goodIn_app (goodIn_of _ (by decide +kernel)) ggL_law_L_digit
