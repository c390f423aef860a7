-- THE LAW'S WORDS, every one of them out of the tables
def lw_T : List Cond := lw_sel6 ++ lw_tbl
set_option maxRecDepth 100000 in
theorem lwi_1 : ∀ w ∈ wsL_law0_r1, w ∈ lw_T := fun w h => (goodIn_r wsL_law0_r1 [61, 62, 38, 896, 897, 40, 651, 652, 41, 63, 64, 65, 66, 67, 68, 82, 84, 69, 70, 39, 85, 86, 71, 72] (by decide +kernel) (by decide +kernel) w h).1
set_option maxRecDepth 100000 in
theorem lwi_2 : ∀ w ∈ wsL_law0_r2, w ∈ lw_T := fun w h => (goodIn_r wsL_law0_r2 [73, 74, 83, 75, 898, 899, 900, 901, 902, 936, 906, 907, 912, 913, 654, 655, 656, 664, 665, 37, 666, 667, 668, 669] (by decide +kernel) (by decide +kernel) w h).1
set_option maxRecDepth 100000 in
theorem lwi_3 : ∀ w ∈ wsL_law0_r3, w ∈ lw_T := fun w h => (goodIn_r wsL_law0_r3 [670, 671, 488, 672, 673, 674, 675, 45, 575, 576, 46, 577, 566, 567, 568, 941, 942, 943, 944, 905, 945, 946, 947, 948] (by decide +kernel) (by decide +kernel) w h).1
set_option maxRecDepth 100000 in
theorem lwi_4 : ∀ w ∈ wsL_law0_r4, w ∈ lw_T := fun w h => (goodIn_r wsL_law0_r4 [949, 950, 951, 953, 18, 954, 955, 956, 957, 958, 959, 960, 961, 962, 963, 964, 965, 966, 967, 968, 969, 970, 691, 692] (by decide +kernel) (by decide +kernel) w h).1
set_option maxRecDepth 100000 in
theorem lwi_5 : ∀ w ∈ wsL_law0_r5, w ∈ lw_T := fun w h => (goodIn_r wsL_law0_r5 [693, 694, 695, 696, 697, 698, 700, 16, 701, 971, 972, 973, 974, 975, 977, 19, 978, 979, 981, 20, 982, 983, 984, 985] (by decide +kernel) (by decide +kernel) w h).1
set_option maxRecDepth 100000 in
theorem lwi_6 : ∀ w ∈ wsL_law0_r6, w ∈ lw_T := fun w h => (goodIn_r wsL_law0_r6 [990, 986, 987, 988, 989, 991, 992, 993, 702, 703, 704, 705, 706, 707, 708, 709, 710, 600, 47, 716, 48, 712, 713, 714] (by decide +kernel) (by decide +kernel) w h).1
set_option maxRecDepth 100000 in
theorem lwi_7 : ∀ w ∈ wsL_law0_r7, w ∈ lw_T := fun w h => (goodIn_r wsL_law0_r7 [715, 76, 732, 501, 502, 733, 504, 505, 506, 110, 111, 112, 113, 994, 995, 996, 997, 1002, 131, 51, 998, 386, 387, 49] (by decide +kernel) (by decide +kernel) w h).1
set_option maxRecDepth 100000 in
theorem lwi_8 : ∀ w ∈ wsL_law0_r8, w ∈ lw_T := fun w h => (goodIn_r wsL_law0_r8 [388, 448, 389, 390, 391, 392, 393, 449, 999, 1000, 1001, 1003, 133, 134, 135, 136, 50, 137, 138, 139, 161, 148, 149, 141] (by decide +kernel) (by decide +kernel) w h).1
set_option maxRecDepth 100000 in
theorem lwi_9 : ∀ w ∈ wsL_law0_r9, w ∈ lw_T := fun w h => (goodIn_r wsL_law0_r9 [142, 52, 143, 144, 145, 146, 147, 1004, 372, 373, 374, 375, 1299, 160, 376, 377, 151, 378, 1300, 0, 380, 381, 169, 1294] (by decide +kernel) (by decide +kernel) w h).1
set_option maxRecDepth 100000 in
theorem lwi_10 : ∀ w ∈ wsL_law0_r10, w ∈ lw_T := fun w h => (goodIn_r wsL_law0_r10 [1, 171, 172, 173, 1295, 2, 175, 176, 187, 177, 178, 53, 179, 180, 181, 54, 182, 183, 184, 185, 186, 188, 189, 55] (by decide +kernel) (by decide +kernel) w h).1
set_option maxRecDepth 100000 in
theorem lwi_11 : ∀ w ∈ wsL_law0_r11, w ∈ lw_T := fun w h => (goodIn_r wsL_law0_r11 [190, 191, 192, 193, 194, 195, 197, 198, 199, 200, 201, 203, 202, 56, 204, 206, 207, 205, 208, 382, 383, 384, 239, 356] (by decide +kernel) (by decide +kernel) w h).1
set_option maxRecDepth 100000 in
theorem lwi_12 : ∀ w ∈ wsL_law0_r12, w ∈ lw_T := fun w h => (goodIn_r wsL_law0_r12 [357, 358, 225, 226, 227, 359, 360, 361, 231, 362, 363, 57, 364, 236, 237, 238, 241, 243, 385, 394, 1301, 3, 396, 397] (by decide +kernel) (by decide +kernel) w h).1
set_option maxRecDepth 100000 in
theorem lwi_13 : ∀ w ∈ wsL_law0_r13, w ∈ lw_T := fun w h => (goodIn_r wsL_law0_r13 [398, 1302, 4, 400, 401, 402, 212, 1296, 5, 214, 215, 216, 217, 58, 218, 219, 220, 221, 222, 223, 224, 228, 229, 230] (by decide +kernel) (by decide +kernel) w h).1
set_option maxRecDepth 100000 in
theorem lwi_14 : ∀ w ∈ wsL_law0_r14, w ∈ lw_T := fun w h => (goodIn_r wsL_law0_r14 [233, 234, 235, 403, 404, 405, 406, 407, 408, 1005, 163, 164, 165, 166, 1293, 167, 168, 209, 210, 211, 245, 246, 247, 248] (by decide +kernel) (by decide +kernel) w h).1
set_option maxRecDepth 100000 in
theorem lwi_15 : ∀ w ∈ wsL_law0_r15, w ∈ lw_T := fun w h => (goodIn_r wsL_law0_r15 [249, 250, 251, 252, 253, 254, 255, 256, 1006, 258, 259, 260, 261, 262, 263, 264, 265, 266, 267, 268, 269, 150, 270, 272] (by decide +kernel) (by decide +kernel) w h).1
set_option maxRecDepth 100000 in
theorem lwi_16 : ∀ w ∈ wsL_law0_r16, w ∈ lw_T := fun w h => (goodIn_r wsL_law0_r16 [273, 271, 274, 275, 277, 276, 278, 279, 280, 281, 276, 282, 283, 284, 285, 286, 287, 288, 289, 290, 291, 292, 334, 435] (by decide +kernel) (by decide +kernel) w h).1
set_option maxRecDepth 100000 in
theorem lwi_17 : ∀ w ∈ wsL_law0_r17, w ∈ lw_T := fun w h => (goodIn_r wsL_law0_r17 [436, 437, 438, 439, 440, 441, 442, 443, 444, 445, 446, 447, 734, 735, 736, 737, 738, 739, 740, 742, 743, 744, 745, 1007] (by decide +kernel) (by decide +kernel) w h).1
set_option maxRecDepth 100000 in
theorem lwi_18 : ∀ w ∈ wsL_law0_r18, w ∈ lw_T := fun w h => (goodIn_r wsL_law0_r18 [1008, 1009, 1010, 1011, 1012, 1013, 1014, 1015, 1016, 1017, 1018, 1019, 1020, 1021, 1022, 1023, 1024, 1025, 1026, 1027, 1029, 1030, 1031, 1032] (by decide +kernel) (by decide +kernel) w h).1
set_option maxRecDepth 100000 in
theorem lwi_19 : ∀ w ∈ wsL_law0_r19, w ∈ lw_T := fun w h => (goodIn_r wsL_law0_r19 [1033, 1034, 1035, 1036, 1038, 1041, 1039, 1040, 1042, 106, 107, 108, 109, 114, 115, 116, 117, 1043, 1044, 1045, 1046, 746, 747, 748] (by decide +kernel) (by decide +kernel) w h).1
set_option maxRecDepth 100000 in
theorem lwi_20 : ∀ w ∈ wsL_law0_r20, w ∈ lw_T := fun w h => (goodIn_r wsL_law0_r20 [749, 750, 751, 752, 88, 87, 639, 640, 641, 642, 643, 644, 597, 598, 599, 511, 512, 513, 514, 515, 517, 12, 518, 475] (by decide +kernel) (by decide +kernel) w h).1
set_option maxRecDepth 100000 in
theorem lwi_21 : ∀ w ∈ wsL_law0_r21, w ∈ lw_T := fun w h => (goodIn_r wsL_law0_r21 [476, 520, 522, 13, 523, 524, 525, 526, 527, 528, 529, 530, 531, 532, 533, 535, 14, 536, 493, 494, 60, 495, 496, 497] (by decide +kernel) (by decide +kernel) w h).1
set_option maxRecDepth 100000 in
theorem lwi_22 : ∀ w ∈ wsL_law0_r22, w ∈ lw_T := fun w h => (goodIn_r wsL_law0_r22 [498, 499, 537, 538, 539, 540, 541, 542, 543, 544, 545, 546, 547, 548, 471, 472, 473, 481, 482, 483, 1047, 1048, 1049, 1050] (by decide +kernel) (by decide +kernel) w h).1
set_option maxRecDepth 100000 in
theorem lwi_23 : ∀ w ∈ wsL_law0_r23, w ∈ lw_T := fun w h => (goodIn_r wsL_law0_r23 [909, 908, 1051, 1052, 1053, 1054, 1055, 1056, 1057, 1058, 1059, 1060, 1061, 1062, 1063, 1064, 1065, 1066, 1067, 1068, 1069, 1070, 1071, 1072] (by decide +kernel) (by decide +kernel) w h).1
set_option maxRecDepth 100000 in
theorem lwi_24 : ∀ w ∈ wsL_law0_r24, w ∈ lw_T := fun w h => (goodIn_r wsL_law0_r24 [1073, 1074, 1075, 1076, 1077, 1078, 1079, 753, 754, 755, 756, 757, 758, 759, 89, 467, 469, 8, 470, 474, 477, 479, 9, 480] (by decide +kernel) (by decide +kernel) w h).1
set_option maxRecDepth 100000 in
theorem lwi_25 : ∀ w ∈ wsL_law0_r25, w ∈ lw_T := fun w h => (goodIn_r wsL_law0_r25 [484, 486, 10, 487, 489, 490, 491, 492, 500, 503, 507, 509, 11, 510, 1080, 1081, 1082, 1083, 1084, 1086, 21, 1087, 1088, 1090] (by decide +kernel) (by decide +kernel) w h).1
set_option maxRecDepth 100000 in
theorem lwi_26 : ∀ w ∈ wsL_law0_r26, w ∈ lw_T := fun w h => (goodIn_r wsL_law0_r26 [22, 1091, 1092, 1093, 1094, 1095, 1096, 1097, 1099, 1100, 1101, 1102, 1103, 1104, 1106, 1107, 1303, 1108, 1109, 1110, 1111, 1112, 1113, 1114] (by decide +kernel) (by decide +kernel) w h).1
set_option maxRecDepth 100000 in
theorem lwi_27 : ∀ w ∈ wsL_law0_r27, w ∈ lw_T := fun w h => (goodIn_r wsL_law0_r27 [1115, 1304, 1116, 1117, 1118, 1119, 1120, 1121, 1123, 23, 1124, 910, 760, 761, 762, 763, 764, 765, 766, 767, 768, 769, 1125, 1126] (by decide +kernel) (by decide +kernel) w h).1
set_option maxRecDepth 100000 in
theorem lwi_28 : ∀ w ∈ wsL_law0_r28, w ∈ lw_T := fun w h => (goodIn_r wsL_law0_r28 [1127, 1128, 770, 771, 772, 773, 774, 775, 776, 777, 779, 17, 780, 555, 1129, 1130, 1131, 1132, 1133, 1135, 24, 1136, 1137, 1138] (by decide +kernel) (by decide +kernel) w h).1
set_option maxRecDepth 100000 in
theorem lwi_29 : ∀ w ∈ wsL_law0_r29, w ∈ lw_T := fun w h => (goodIn_r wsL_law0_r29 [1139, 1140, 1141, 1142, 1143, 1144, 1145, 1146, 1147, 1148, 782, 783, 784, 785, 786, 787, 788, 1149, 1150, 1151, 1152, 789, 790, 791] (by decide +kernel) (by decide +kernel) w h).1
set_option maxRecDepth 100000 in
theorem lwi_30 : ∀ w ∈ wsL_law0_r30, w ∈ lw_T := fun w h => (goodIn_r wsL_law0_r30 [792, 793, 794, 795, 796, 797, 59, 798, 560, 561, 562, 1153, 1154, 1155, 1156, 1157, 1158, 1159, 799, 800, 801, 802, 803, 804] (by decide +kernel) (by decide +kernel) w h).1
set_option maxRecDepth 100000 in
theorem lwi_31 : ∀ w ∈ wsL_law0_r31, w ∈ lw_T := fun w h => (goodIn_r wsL_law0_r31 [805, 806, 807, 808, 809, 810, 811, 812, 584, 585, 586, 813, 574, 570, 571, 572, 573, 563, 564, 565, 569, 1160, 1161, 1162] (by decide +kernel) (by decide +kernel) w h).1
set_option maxRecDepth 100000 in
theorem lwi_32 : ∀ w ∈ wsL_law0_r32, w ∈ lw_T := fun w h => (goodIn_r wsL_law0_r32 [1163, 1164, 1165, 1166, 814, 815, 816, 817, 818, 819, 820, 610, 611, 612, 613, 614, 615, 616, 617, 618, 619, 620, 621, 622] (by decide +kernel) (by decide +kernel) w h).1
set_option maxRecDepth 100000 in
theorem lwi_33 : ∀ w ∈ wsL_law0_r33, w ∈ lw_T := fun w h => (goodIn_r wsL_law0_r33 [1167, 1168, 1169, 1170, 1171, 1172, 1173, 821, 822, 823, 824, 825, 826, 827, 828, 829, 830, 831, 832, 833, 1174, 1175, 1176, 1177] (by decide +kernel) (by decide +kernel) w h).1
set_option maxRecDepth 100000 in
theorem lwi_34 : ∀ w ∈ wsL_law0_r34, w ∈ lw_T := fun w h => (goodIn_r wsL_law0_r34 [1178, 1179, 1180, 118, 119, 120, 121, 90, 1181, 1182, 1183, 1184, 911, 834, 835, 836, 837, 838, 839, 840, 578, 579, 580, 1185] (by decide +kernel) (by decide +kernel) w h).1
set_option maxRecDepth 100000 in
theorem lwi_35 : ∀ w ∈ wsL_law0_r35, w ∈ lw_T := fun w h => (goodIn_r wsL_law0_r35 [1186, 1187, 1188, 1189, 1190, 1191, 841, 842, 843, 844, 845, 846, 847, 1192, 1193, 1194, 1195, 848, 849, 850, 851, 852, 853, 854] (by decide +kernel) (by decide +kernel) w h).1
set_option maxRecDepth 100000 in
theorem lwi_36 : ∀ w ∈ wsL_law0_r36, w ∈ lw_T := fun w h => (goodIn_r wsL_law0_r36 [626, 627, 628, 581, 582, 583, 629, 630, 631, 632, 633, 607, 608, 609, 623, 624, 625, 1196, 1197, 1198, 1199, 1200, 1202, 25] (by decide +kernel) (by decide +kernel) w h).1
set_option maxRecDepth 100000 in
theorem lwi_37 : ∀ w ∈ wsL_law0_r37, w ∈ lw_T := fun w h => (goodIn_r wsL_law0_r37 [1203, 855, 856, 857, 858, 859, 860, 861, 556, 1204, 1205, 1206, 1207, 122, 123, 124, 125, 126, 127, 128, 129, 130, 132, 162] (by decide +kernel) (by decide +kernel) w h).1
set_option maxRecDepth 100000 in
theorem lwi_38 : ∀ w ∈ wsL_law0_r38, w ∈ lw_T := fun w h => (goodIn_r wsL_law0_r38 [257, 1208, 1209, 1210, 1211, 862, 863, 864, 865, 866, 867, 868, 634, 1212, 1213, 1214, 1215, 1216, 1217, 1218, 870, 871, 872, 873] (by decide +kernel) (by decide +kernel) w h).1
set_option maxRecDepth 100000 in
theorem lwi_39 : ∀ w ∈ wsL_law0_r39, w ∈ lw_T := fun w h => (goodIn_r wsL_law0_r39 [594, 595, 596, 1219, 1220, 1221, 1222, 1223, 1225, 26, 1226, 874, 875, 876, 877, 878, 879, 880, 1227, 1228, 1229, 1230, 881, 882] (by decide +kernel) (by decide +kernel) w h).1
set_option maxRecDepth 100000 in
theorem lwi_40 : ∀ w ∈ wsL_law0_r40, w ∈ lw_T := fun w h => (goodIn_r wsL_law0_r40 [883, 884, 636, 637, 638, 1231, 1232, 1233, 1234, 1235, 1237, 27, 1238, 885, 886, 887, 888, 889, 890, 891, 1239, 1240, 1241, 1242] (by decide +kernel) (by decide +kernel) w h).1
set_option maxRecDepth 100000 in
theorem lwi_41 : ∀ w ∈ wsL_law0_r41, w ∈ lw_T := fun w h => (goodIn_r wsL_law0_r41 [892, 893, 894, 895, 647, 648, 649, 549, 550, 551, 1243, 1244, 1245, 1246, 1247, 1249, 28, 1250, 937, 938, 939, 940, 459, 460] (by decide +kernel) (by decide +kernel) w h).1
set_option maxRecDepth 100000 in
theorem lwi_42 : ∀ w ∈ wsL_law0_r42, w ∈ lw_T := fun w h => (goodIn_r wsL_law0_r42 [461, 462, 463, 465, 7, 466, 552, 553, 554, 557, 558, 559, 1251, 1252, 1253, 1254, 1255, 1257, 29, 1258, 1259, 1261, 30, 1262] (by decide +kernel) (by decide +kernel) w h).1
set_option maxRecDepth 100000 in
theorem lwi_43 : ∀ w ∈ wsL_law0_r43, w ∈ lw_T := fun w h => (goodIn_r wsL_law0_r43 [1263, 1265, 31, 1266, 1267, 1269, 32, 1270, 1271, 1273, 33, 1274, 1275, 1277, 34, 1278, 1279, 1281, 35, 1282, 587, 588, 589, 590] (by decide +kernel) (by decide +kernel) w h).1
set_option maxRecDepth 100000 in
theorem lwi_44 : ∀ w ∈ wsL_law0_r44, w ∈ lw_T := fun w h => (goodIn_r wsL_law0_r44 [591, 592, 593, 603, 605, 15, 606, 635, 646, 650, 1283, 1284, 1285, 1286, 1287, 914, 1288, 1290, 36, 1291, 1292] (by decide +kernel) (by decide +kernel) w h).1
set_option maxRecDepth 100000 in
theorem lwi_wsX20 : ∀ w ∈ wsX20, w ∈ lw_T := by decide +kernel
set_option maxRecDepth 100000 in
theorem lwi_wsX40 : ∀ w ∈ wsX40, w ∈ lw_T := by decide +kernel
set_option maxRecDepth 100000 in
theorem lwi_wsX30 : ∀ w ∈ wsX30, w ∈ lw_T := by decide +kernel
set_option maxRecDepth 100000 in
theorem lwi_wsX00 : ∀ w ∈ wsX00, w ∈ lw_T := by decide +kernel
set_option maxRecDepth 100000 in
theorem lwi_wsJ40 : ∀ w ∈ wsJ40, w ∈ lw_T := by decide +kernel
set_option maxRecDepth 100000 in
theorem lwi_wsJ00 : ∀ w ∈ wsJ00, w ∈ lw_T := by decide +kernel
set_option maxRecDepth 100000 in
theorem lwi_t0 : ∀ w ∈ (vx_atS RX2 196 "java/lang/IndexOutOfBoundsException" ["java/lang/RuntimeException", "java/lang/Exception"]).filter goodWord, w ∈ lw_T := by decide +kernel
set_option maxRecDepth 100000 in
theorem lwi_t1 : ∀ w ∈ (vx_atS RX2 43 "java/lang/IllegalArgumentException" ["java/lang/RuntimeException", "java/lang/Exception"]).filter goodWord, w ∈ lw_T := by decide +kernel
set_option maxRecDepth 100000 in
theorem lwi_t2 : ∀ w ∈ (vx_atS RX2 54 "java/lang/IllegalStateException" ["java/lang/RuntimeException", "java/lang/Exception"]).filter goodWord, w ∈ lw_T := by decide +kernel
theorem lwi_0 : ∀ w ∈ wsL_law0, w ∈ lw_T := by
  intro w h
  refine (List.mem_append.mp h).elim (fun h => ?_) (fun h => absurd h List.not_mem_nil)
  refine (List.mem_append.mp h).elim (fun h => ?_) (lwi_wsJ00 w)
  refine (List.mem_append.mp h).elim (fun h => ?_) (lwi_wsJ40 w)
  refine (List.mem_append.mp h).elim (fun h => ?_) (lwi_wsX00 w)
  refine (List.mem_append.mp h).elim (fun h => ?_) (lwi_wsX30 w)
  refine (List.mem_append.mp h).elim (fun h => ?_) (lwi_wsX40 w)
  refine (List.mem_append.mp h).elim (fun h => ?_) (lwi_wsX20 w)
  refine (List.mem_append.mp h).elim (lwi_1 w) (fun h => ?_)
  refine (List.mem_append.mp h).elim (lwi_2 w) (fun h => ?_)
  refine (List.mem_append.mp h).elim (lwi_3 w) (fun h => ?_)
  refine (List.mem_append.mp h).elim (lwi_4 w) (fun h => ?_)
  refine (List.mem_append.mp h).elim (lwi_5 w) (fun h => ?_)
  refine (List.mem_append.mp h).elim (lwi_6 w) (fun h => ?_)
  refine (List.mem_append.mp h).elim (lwi_7 w) (fun h => ?_)
  refine (List.mem_append.mp h).elim (lwi_8 w) (fun h => ?_)
  refine (List.mem_append.mp h).elim (lwi_9 w) (fun h => ?_)
  refine (List.mem_append.mp h).elim (lwi_10 w) (fun h => ?_)
  refine (List.mem_append.mp h).elim (lwi_11 w) (fun h => ?_)
  refine (List.mem_append.mp h).elim (lwi_12 w) (fun h => ?_)
  refine (List.mem_append.mp h).elim (lwi_13 w) (fun h => ?_)
  refine (List.mem_append.mp h).elim (lwi_14 w) (fun h => ?_)
  refine (List.mem_append.mp h).elim (lwi_15 w) (fun h => ?_)
  refine (List.mem_append.mp h).elim (lwi_16 w) (fun h => ?_)
  refine (List.mem_append.mp h).elim (lwi_17 w) (fun h => ?_)
  refine (List.mem_append.mp h).elim (lwi_18 w) (fun h => ?_)
  refine (List.mem_append.mp h).elim (lwi_19 w) (fun h => ?_)
  refine (List.mem_append.mp h).elim (lwi_20 w) (fun h => ?_)
  refine (List.mem_append.mp h).elim (lwi_21 w) (fun h => ?_)
  refine (List.mem_append.mp h).elim (lwi_22 w) (fun h => ?_)
  refine (List.mem_append.mp h).elim (lwi_23 w) (fun h => ?_)
  refine (List.mem_append.mp h).elim (lwi_24 w) (fun h => ?_)
  refine (List.mem_append.mp h).elim (lwi_25 w) (fun h => ?_)
  refine (List.mem_append.mp h).elim (lwi_26 w) (fun h => ?_)
  refine (List.mem_append.mp h).elim (lwi_27 w) (fun h => ?_)
  refine (List.mem_append.mp h).elim (lwi_28 w) (fun h => ?_)
  refine (List.mem_append.mp h).elim (lwi_29 w) (fun h => ?_)
  refine (List.mem_append.mp h).elim (lwi_30 w) (fun h => ?_)
  refine (List.mem_append.mp h).elim (lwi_31 w) (fun h => ?_)
  refine (List.mem_append.mp h).elim (lwi_32 w) (fun h => ?_)
  refine (List.mem_append.mp h).elim (lwi_33 w) (fun h => ?_)
  refine (List.mem_append.mp h).elim (lwi_34 w) (fun h => ?_)
  refine (List.mem_append.mp h).elim (lwi_35 w) (fun h => ?_)
  refine (List.mem_append.mp h).elim (lwi_36 w) (fun h => ?_)
  refine (List.mem_append.mp h).elim (lwi_37 w) (fun h => ?_)
  refine (List.mem_append.mp h).elim (lwi_38 w) (fun h => ?_)
  refine (List.mem_append.mp h).elim (lwi_39 w) (fun h => ?_)
  refine (List.mem_append.mp h).elim (lwi_40 w) (fun h => ?_)
  refine (List.mem_append.mp h).elim (lwi_41 w) (fun h => ?_)
  refine (List.mem_append.mp h).elim (lwi_42 w) (fun h => ?_)
  refine (List.mem_append.mp h).elim (lwi_43 w) (fun h => ?_)
  exact lwi_44 w h
theorem lwi_all : ∀ w ∈ wsL_law, w ∈ lw_T := fun w h => (List.mem_append.mp h).elim (fun h => (List.mem_append.mp h).elim (fun h => (List.mem_append.mp h).elim (lwi_0 w) (lwi_t0 w)) (lwi_t1 w)) (lwi_t2 w)
theorem lw_hts {args : Array Value} {s : State} (hts : ∀ w ∈ lw_tbl, w.before args s = true) : ∀ w ∈ wsL_law, w.before args s = true := fun w h => (List.mem_append.mp (lwi_all w h)).elim (lw_sel6_ok hts w) (hts w)
