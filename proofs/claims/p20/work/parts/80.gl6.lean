set_option maxRecDepth 20000 in
theorem ggd_1 : GoodIn wsL_law (.code yX4_digest cX4_digest 3 (some .long) :: wsX4_digest_r1) := goodIn_r _ [1045, 67, 1046, 1047, 34, 35, 923, 924, 925, 5, 926, 529, 528, 635, 804, 164, 165, 166, 167, 168, 169, 170, 171, 172, 173] (by decide +kernel) (by decide +kernel)
set_option maxRecDepth 20000 in
theorem ggd_2 : GoodIn wsL_law wsX4_digest_r2 := goodIn_r _ [174, 175, 1048, 1049, 1050, 1051, 1052, 819, 820, 821, 124, 81, 861, 862, 863, 864, 598, 599, 600, 601, 602, 603, 604, 33] (by decide +kernel) (by decide +kernel)
set_option maxRecDepth 20000 in
theorem ggd_3 : GoodIn wsL_law wsX4_digest_r3 := goodIn_r _ [82, 83, 84, 85, 86, 87, 88, 89, 90, 91, 92, 93, 772, 773, 774, 617, 618, 619, 121, 122, 123, 536, 537, 538] (by decide +kernel) (by decide +kernel)
set_option maxRecDepth 20000 in
theorem ggd_4 : GoodIn wsL_law wsX4_digest_r4 := goodIn_r _ [539, 421, 422, 423, 424, 540, 541, 301, 542, 543, 339, 340, 272, 341, 342, 275, 343, 544, 545, 193, 546, 335, 336, 337] (by decide +kernel) (by decide +kernel)
set_option maxRecDepth 20000 in
theorem ggd_5 : GoodIn wsL_law wsX4_digest_r5 := goodIn_r _ [266, 267, 268, 338, 389, 390, 391, 262, 280, 281, 909, 910, 911, 550, 551, 552, 949, 950, 951, 952, 533, 534, 535, 547] (by decide +kernel) (by decide +kernel)
set_option maxRecDepth 20000 in
theorem ggd_6 : GoodIn wsL_law wsX4_digest_r6 := goodIn_r _ [548, 549, 553, 554, 555, 556, 557, 558, 120, 125, 126, 127, 117, 118, 119, 594, 595, 596, 597, 605, 606, 607, 161, 162] (by decide +kernel) (by decide +kernel)
set_option maxRecDepth 20000 in
theorem ggd_7 : GoodIn wsL_law wsX4_digest_r7 := goodIn_r _ [163, 179, 180, 181, 182, 183, 184, 185, 186, 13, 14, 187, 188, 189, 190, 191, 192, 194, 195, 196, 197, 198, 199, 200] (by decide +kernel) (by decide +kernel)
set_option maxRecDepth 20000 in
theorem ggd_8 : GoodIn wsL_law wsX4_digest_r8 := goodIn_r _ [201, 202, 203, 204, 205, 206, 207, 208, 209, 210, 211, 212, 213, 214, 215, 216, 217, 218, 219, 220, 221, 222, 223, 224] (by decide +kernel) (by decide +kernel)
set_option maxRecDepth 20000 in
theorem ggd_9 : GoodIn wsL_law wsX4_digest_r9 := goodIn_r _ [225, 226, 227, 228, 229, 230, 231, 232, 233, 234, 235, 236, 237, 238, 239, 240, 241, 242, 243, 244, 245, 246, 247, 248] (by decide +kernel) (by decide +kernel)
set_option maxRecDepth 20000 in
theorem ggd_10 : GoodIn wsL_law wsX4_digest_r10 := goodIn_r _ [249, 250, 251, 252, 253, 254, 255, 256, 257, 258, 259, 260, 261, 263, 264, 265, 269, 270, 271, 273, 274, 276, 277, 278] (by decide +kernel) (by decide +kernel)
set_option maxRecDepth 20000 in
theorem ggd_11 : GoodIn wsL_law wsX4_digest_r11 := goodIn_r _ [279, 282, 283, 284, 285, 286, 287, 288, 289, 290, 291, 292, 293, 294, 295, 296, 297, 298, 299, 300, 302, 303, 304, 305] (by decide +kernel) (by decide +kernel)
set_option maxRecDepth 20000 in
theorem ggd_12 : GoodIn wsL_law wsX4_digest_r12 := goodIn_r _ [306, 307, 308, 309, 310, 311, 312, 313, 314, 315, 316, 317, 318, 319, 320, 608, 609, 610, 611, 612, 613, 614, 615, 367] (by decide +kernel) (by decide +kernel)
set_option maxRecDepth 20000 in
theorem ggd_13 : GoodIn wsL_law wsX4_digest_r13 := goodIn_r _ [616, 368, 369, 364, 370, 371, 176, 177, 178, 321, 322, 323, 324, 325, 326, 327, 328, 329, 330, 331, 332, 333, 334, 620] (by decide +kernel) (by decide +kernel)
set_option maxRecDepth 20000 in
theorem ggd_14 : GoodIn wsL_law wsX4_digest_r14 := goodIn_r _ [621, 622, 623, 624, 625, 626, 627, 628, 629, 630, 344, 345, 346, 347, 348, 349, 350, 351, 352, 353, 354, 355, 356, 357] (by decide +kernel) (by decide +kernel)
set_option maxRecDepth 20000 in
theorem ggd_15 : GoodIn wsL_law wsX4_digest_r15 := goodIn_r _ [358, 359, 360, 361, 362, 363, 365, 366, 372, 373, 374, 375, 376, 377, 378, 379, 380, 381, 382, 383, 384, 385, 386, 387] (by decide +kernel) (by decide +kernel)
set_option maxRecDepth 20000 in
theorem ggd_16 : GoodIn wsL_law wsX4_digest_r16 := goodIn_r _ [388, 392, 393, 394, 395, 978, 979, 980, 981, 1000, 1001, 1002, 1003, 1004, 1005, 1006, 1007, 1008, 1009, 1010, 1011, 36, 37, 1012] (by decide +kernel) (by decide +kernel)
set_option maxRecDepth 20000 in
theorem ggd_17 : GoodIn wsL_law wsX4_digest_r17 := goodIn_r _ [1013, 1014, 1015, 1016, 1017, 1018, 1019, 1020, 1021, 1022, 1023, 1024, 1025, 1026, 1027, 670, 671, 672, 32, 673, 674, 675, 676, 677] (by decide +kernel) (by decide +kernel)
set_option maxRecDepth 20000 in
theorem ggd_18 : GoodIn wsL_law wsX4_digest_r18 := goodIn_r _ [678, 679, 680, 681, 711, 712, 713, 745, 746, 747] (by decide +kernel) (by decide +kernel)
set_option maxRecDepth 20000 in
theorem ggd_x : GoodIn wsL_law wsX40 := goodIn_r _ [1060, 1061, 1062, 1063, 1064, 1065, 1066, 1067, 1068, 1069] (by decide +kernel) (by decide +kernel)
set_option maxRecDepth 20000 in
theorem ggd_y : GoodIn wsL_law wsJ00 := goodIn_r _ [1078, 1079, 1080, 1081] (by decide +kernel) (by decide +kernel)
set_option maxRecDepth 20000 in
theorem ggd_z : GoodIn wsL_law wsJ40 := goodIn_r _ [1074, 1075, 1076, 1077] (by decide +kernel) (by decide +kernel)
theorem ggL_law_X4_digest : GoodIn wsL_law wsX4_digest := goodIn_ca (goodIn_ca (goodIn_ca (goodIn_ca ggd_1 (goodIn_app ggd_2 (goodIn_app ggd_3 (goodIn_app ggd_4 (goodIn_app ggd_5 (goodIn_app ggd_6 (goodIn_app ggd_7 (goodIn_app ggd_8 (goodIn_app ggd_9 (goodIn_app ggd_10 (goodIn_app ggd_11 (goodIn_app ggd_12 (goodIn_app ggd_13 (goodIn_app ggd_14 (goodIn_app ggd_15 (goodIn_app ggd_16 (goodIn_app ggd_17 ggd_18))))))))))))))))) ggd_x) ggd_y) ggd_z
set_option maxRecDepth 20000 in
theorem gL_law_X4_digest : GoodIn wsL_law (wsV RL 217 RX4 yX4_digest wsX4_digest) := goodIn_app (goodIn_of _ (by decide +kernel)) ggL_law_X4_digest
