set_option maxRecDepth 20000 in
theorem ggL_law_X2_init : GoodIn wsL_law wsX2_init := goodIn_r _ [11, 12, 13, 14, 15, 16, 17, 18, 19, 20, 21, 22, 23, 24, 25, 26, 27, 1053, 1054, 1055, 1056, 1057, 1058, 1059, 1072, 1073] (by decide +kernel) (by decide +kernel)
set_option maxRecDepth 20000 in
theorem gL_law_X2_init : GoodIn wsL_law (wsX2_init) := ggL_law_X2_init
set_option maxRecDepth 20000 in
theorem ggL_law_X4_init : GoodIn wsL_law wsX4_init := goodIn_r _ [30, 31, 13, 14, 32, 33, 34, 35, 36, 37, 1060, 1061, 1062, 1063, 1064, 1065, 1066, 1067, 1068, 1069] (by decide +kernel) (by decide +kernel)
set_option maxRecDepth 20000 in
theorem gL_law_X4_init : GoodIn wsL_law (wsX4_init) := ggL_law_X4_init
set_option maxRecDepth 20000 in
theorem ggL_law_X3_init : GoodIn wsL_law wsX3_init := goodIn_r _ [39, 40, 13, 14] (by decide +kernel) (by decide +kernel)
set_option maxRecDepth 20000 in
theorem gL_law_X3_init_n111 : GoodIn wsL_law (wsX3_init) := ggL_law_X3_init
set_option maxRecDepth 20000 in
theorem ggL_law_L_put : GoodIn wsL_law wsL_put := goodIn_ca (goodIn_r _ [44, 45, 46, 47, 48, 2, 49, 16, 50, 51, 52, 53, 54, 55, 56, 57, 58, 59, 60, 61, 62, 1070, 1071, 1053, 1054, 1055, 1056, 1057, 1058, 1059] (by decide +kernel) (by decide +kernel)) (goodIn_sub (fun _ h => List.mem_append_left _ (List.mem_append_left _ (List.mem_append_right _ h))) (by decide +kernel))
set_option maxRecDepth 20000 in
theorem gL_law_L_put : GoodIn wsL_law (va_wsS RL 112 yL_put wsL_put) := goodIn_app (goodIn_of _ (by decide +kernel)) ggL_law_L_put
set_option maxRecDepth 20000 in
theorem ggL_law_X4_put : GoodIn wsL_law wsX4_put := goodIn_r _ [66, 67, 34, 33, 68, 69, 5, 70, 71, 72, 73, 74, 75, 76, 77, 78, 79, 80, 81, 82, 83, 84, 85, 86, 87, 88, 89, 90, 91, 92, 93, 1060, 1061, 1062, 1063, 1064, 1065, 1066, 1067, 1068, 1069] (by decide +kernel) (by decide +kernel)
set_option maxRecDepth 20000 in
theorem gL_law_X4_put : GoodIn wsL_law (wsV RL 117 RX4 yX4_put wsX4_put) := goodIn_app (goodIn_of _ (by decide +kernel)) ggL_law_X4_put
set_option maxRecDepth 20000 in
theorem ggL_law_L_copy : GoodIn wsL_law wsL_copy := goodIn_ca (goodIn_r _ [96, 45, 97, 98, 99, 2, 100, 16, 51, 52, 53, 54, 55, 101, 102, 103, 104, 1070, 1071, 1053, 1054, 1055, 1056, 1057, 1058, 1059] (by decide +kernel) (by decide +kernel)) (goodIn_sub (fun _ h => List.mem_append_left _ (List.mem_append_left _ (List.mem_append_right _ h))) (by decide +kernel))
set_option maxRecDepth 20000 in
theorem gL_law_L_copy : GoodIn wsL_law (va_wsS RL 118 yL_copy wsL_copy) := goodIn_app (goodIn_of _ (by decide +kernel)) ggL_law_L_copy
set_option maxRecDepth 20000 in
theorem ggL_law_X4_copy : GoodIn wsL_law wsX4_copy := goodIn_r _ [108, 67, 34, 68, 69, 5, 70, 71, 72, 73, 109, 110, 111, 112, 113, 114, 115, 116, 117, 118, 119, 33, 120, 121, 122, 123, 124, 125, 126, 127, 1060, 1061, 1062, 1063, 1064, 1065, 1066, 1067, 1068, 1069] (by decide +kernel) (by decide +kernel)
set_option maxRecDepth 20000 in
theorem gL_law_X4_copy : GoodIn wsL_law (wsV RL 121 RX4 yX4_copy wsX4_copy) := goodIn_app (goodIn_of _ (by decide +kernel)) ggL_law_X4_copy
set_option maxRecDepth 20000 in
theorem ggL_law_L_type : GoodIn wsL_law wsL_type := goodIn_ca (goodIn_ca (goodIn_r _ [130, 131, 132, 133, 134, 135, 2, 136, 137, 138, 139, 140, 20, 141, 142, 143, 19, 144, 145, 146, 147, 148, 149, 150, 151, 152, 27, 153, 154, 155, 156, 1070, 1071, 1053, 1054, 1055, 1056, 1057, 1058, 1059, 1072, 1073] (by decide +kernel) (by decide +kernel)) (goodIn_sub (fun _ h => List.mem_append_left _ (List.mem_append_right _ h)) (by decide +kernel))) (goodIn_sub (fun _ h => List.mem_append_right _ h) (by decide +kernel))
set_option maxRecDepth 20000 in
theorem gL_law_L_type : GoodIn wsL_law (va_wsS RL 122 yL_type wsL_type) := goodIn_app (goodIn_of _ (by decide +kernel)) ggL_law_L_type
set_option maxRecDepth 20000 in
theorem ggL_law_X4_type : GoodIn wsL_law wsX4_type := goodIn_r _ [160, 67, 35, 161, 162, 163, 71, 72, 5, 73, 74, 75, 76, 77, 164, 165, 166, 167, 168, 169, 170, 171, 172, 173, 174, 175, 176, 177, 178, 179, 180, 181, 182, 183, 184, 185, 186, 13, 14, 187, 188, 189, 190, 191, 192, 193, 194, 195, 196, 197, 198, 199, 200, 201, 202, 203, 204, 205, 206, 207, 208, 209, 210, 211, 212, 213, 214, 215, 216, 217, 218, 219, 220, 221, 222, 223, 224, 225, 226, 227, 228, 229, 230, 231, 232, 233, 234, 235, 236, 237, 238, 239, 240, 241, 242, 243, 244, 245, 246, 247, 248, 249, 250, 251, 252, 253, 254, 255, 256, 257, 258, 259, 260, 261, 262, 263, 264, 265, 266, 267, 268, 269, 270, 271, 272, 273, 274, 275, 276, 277, 278, 279, 280, 281, 282, 283, 284, 285, 286, 287, 288, 289, 290, 291, 292, 293, 294, 295, 296, 297, 298, 299, 300, 301, 302, 303, 304, 305, 306, 307, 308, 309, 310, 311, 312, 313, 314, 315, 316, 317, 318, 319, 320, 321, 322, 323, 324, 325, 326, 327, 328, 329, 330, 331, 332, 333, 334, 335, 336, 337, 338, 339, 340, 341, 342, 343, 344, 345, 346, 347, 348, 349, 350, 351, 352, 353, 354, 355, 356, 357, 358, 359, 360, 361, 362, 363, 364, 365, 366, 367, 368, 369, 370, 371, 372, 373, 374, 375, 376, 377, 378, 379, 380, 381, 382, 383, 384, 385, 386, 387, 388, 389, 390, 391, 392, 393, 394, 395, 1060, 1061, 1062, 1063, 1064, 1065, 1066, 1067, 1068, 1069, 1074, 1075, 1076, 1077, 1078, 1079, 1080, 1081] (by decide +kernel) (by decide +kernel)
set_option maxRecDepth 20000 in
theorem gL_law_X4_type : GoodIn wsL_law (wsV RL 125 RX4 yX4_type wsX4_type) := goodIn_app (goodIn_of _ (by decide +kernel)) ggL_law_X4_type
set_option maxRecDepth 20000 in
theorem ggL_law_L_erase : GoodIn wsL_law wsL_erase := goodIn_ca (goodIn_r _ [398, 132, 399, 400, 401, 2, 402, 139, 140, 20, 153, 154, 155, 19, 156, 145, 403, 404, 405, 406, 1070, 1071, 1053, 1054, 1055, 1056, 1057, 1058, 1059, 1072, 1073] (by decide +kernel) (by decide +kernel)) (goodIn_sub (fun _ h => List.mem_append_right _ h) (by decide +kernel))
set_option maxRecDepth 20000 in
theorem gL_law_L_erase : GoodIn wsL_law (va_wsS RL 126 yL_erase wsL_erase) := goodIn_app (goodIn_of _ (by decide +kernel)) ggL_law_L_erase
set_option maxRecDepth 20000 in
theorem ggL_law_X4_erase : GoodIn wsL_law wsX4_erase := goodIn_r _ [410, 67, 35, 411, 412, 413, 167, 414, 169, 74, 75, 76, 5, 77, 164, 165, 166, 168, 170, 171, 172, 173, 174, 175, 415, 416, 417, 418, 419, 420, 270, 271, 272, 273, 274, 275, 276, 421, 422, 423, 424, 425, 426, 301, 427, 428, 349, 429, 374, 239, 375, 241, 242, 243, 244, 245, 246, 376, 377, 378, 188, 247, 248, 231, 249, 250, 251, 252, 253, 379, 380, 381, 382, 162, 163, 430, 431, 432, 356, 13, 14, 433, 434, 193, 435, 436, 437, 438, 384, 385, 386, 387, 388, 306, 307, 308, 266, 267, 268, 309, 310, 311, 312, 313, 314, 389, 390, 391, 262, 280, 281, 195, 196, 197, 198, 392, 439, 394, 395, 440, 1060, 1061, 1062, 1063, 1064, 1065, 1066, 1067, 1068, 1069, 1078, 1079, 1080, 1081, 1074, 1075, 1076, 1077] (by decide +kernel) (by decide +kernel)
set_option maxRecDepth 20000 in
theorem gL_law_X4_erase : GoodIn wsL_law (wsV RL 129 RX4 yX4_erase wsX4_erase) := goodIn_app (goodIn_of _ (by decide +kernel)) ggL_law_X4_erase
set_option maxRecDepth 20000 in
theorem ggL_law_X2_clear : GoodIn wsL_law wsX2_clear := goodIn_r _ [444, 20, 153, 154, 155, 19, 156, 145, 445, 446, 447, 448, 1053, 1054, 1055, 1056, 1057, 1058, 1059, 1072, 1073] (by decide +kernel) (by decide +kernel)
set_option maxRecDepth 20000 in
theorem gL_law_X2_clear : GoodIn wsL_law (wsV RL 130 RX2 yX2_clear wsX2_clear) := goodIn_app (goodIn_of _ (by decide +kernel)) ggL_law_X2_clear
set_option maxRecDepth 20000 in
theorem ggL_law_X4_clear : GoodIn wsL_law wsX4_clear := goodIn_r _ [452, 67, 35, 164, 165, 166, 167, 168, 169, 170, 171, 172, 173, 174, 175, 1060, 1061, 1062, 1063, 1064, 1065, 1066, 1067, 1068, 1069, 1078, 1079, 1080, 1081] (by decide +kernel) (by decide +kernel)
set_option maxRecDepth 20000 in
theorem gL_law_X4_clear : GoodIn wsL_law (wsV RL 133 RX4 yX4_clear wsX4_clear) := goodIn_app (goodIn_of _ (by decide +kernel)) ggL_law_X4_clear
set_option maxRecDepth 20000 in
theorem ggL_law_L_read : GoodIn wsL_law wsL_read := goodIn_ca (goodIn_ca (goodIn_r _ [455, 45, 131, 456, 457, 458, 2, 459, 460, 20, 461, 51, 52, 53, 54, 55, 462, 463, 464, 465, 466, 467, 137, 138, 468, 469, 470, 471, 472, 473, 19, 474, 145, 475, 476, 477, 478, 27, 479, 480, 481, 482, 483, 484, 485, 486, 487, 488, 489, 490, 491, 492, 493, 494, 495, 496, 497, 498, 499, 500, 501, 502, 503, 504, 505, 506, 507, 508, 509, 510, 511, 512, 513, 514, 515, 516, 517, 518, 519, 520, 521, 522, 523, 101, 102, 103, 104, 16, 1070, 1071, 1053, 1054, 1055, 1056, 1057, 1058, 1059, 1072, 1073] (by decide +kernel) (by decide +kernel)) (goodIn_sub (fun _ h => List.mem_append_left _ (List.mem_append_left _ (List.mem_append_right _ h))) (by decide +kernel))) (goodIn_sub (fun _ h => List.mem_append_left _ (List.mem_append_right _ h)) (by decide +kernel))
set_option maxRecDepth 20000 in
theorem gL_law_L_read : GoodIn wsL_law (va_wsS RL 134 yL_read wsL_read) := goodIn_app (goodIn_of _ (by decide +kernel)) ggL_law_L_read
set_option maxRecDepth 20000 in
theorem ggL_law_X4_read : GoodIn wsL_law wsX4_read := goodIn_r _ [527, 67, 528, 35, 529, 68, 69, 5, 70, 71, 72, 73, 74, 75, 76, 77, 530, 531, 532, 533, 534, 535, 33, 81, 164, 165, 166, 167, 168, 169, 170, 171, 172, 173, 174, 175, 536, 537, 538, 539, 421, 422, 423, 424, 540, 541, 301, 542, 543, 339, 340, 272, 341, 342, 275, 343, 544, 545, 193, 546, 335, 336, 337, 266, 267, 268, 338, 389, 390, 391, 262, 280, 281, 547, 548, 549, 550, 551, 552, 553, 554, 555, 556, 557, 558, 120, 125, 126, 127, 121, 122, 123, 124, 113, 114, 115, 116, 34, 117, 118, 119, 1060, 1061, 1062, 1063, 1064, 1065, 1066, 1067, 1068, 1069, 1078, 1079, 1080, 1081] (by decide +kernel) (by decide +kernel)
set_option maxRecDepth 20000 in
theorem gL_law_X4_read : GoodIn wsL_law (wsV RL 136 RX4 yX4_read wsX4_read) := goodIn_app (goodIn_of _ (by decide +kernel)) ggL_law_X4_read
set_option maxRecDepth 20000 in
theorem ggL_law_L_write : GoodIn wsL_law wsL_write := goodIn_ca (goodIn_ca (goodIn_r _ [561, 45, 131, 562, 563, 564, 2, 565, 566, 20, 51, 52, 53, 54, 55, 462, 463, 464, 465, 466, 467, 137, 138, 468, 469, 470, 567, 568, 569, 570, 518, 519, 520, 571, 479, 480, 572, 573, 574, 575, 16, 521, 522, 523, 576, 577, 578, 579, 50, 580, 581, 582, 19, 583, 145, 498, 499, 500, 501, 502, 503, 504, 505, 584, 147, 148, 585, 150, 151, 152, 27, 586, 587, 588, 589, 153, 154, 155, 156, 1070, 1071, 1053, 1054, 1055, 1056, 1057, 1058, 1059, 1072, 1073] (by decide +kernel) (by decide +kernel)) (goodIn_sub (fun _ h => List.mem_append_left _ (List.mem_append_left _ (List.mem_append_right _ h))) (by decide +kernel))) (goodIn_sub (fun _ h => List.mem_append_left _ (List.mem_append_right _ h)) (by decide +kernel))
set_option maxRecDepth 20000 in
theorem gL_law_L_write : GoodIn wsL_law (va_wsS RL 137 yL_write wsL_write) := goodIn_app (goodIn_of _ (by decide +kernel)) ggL_law_L_write
