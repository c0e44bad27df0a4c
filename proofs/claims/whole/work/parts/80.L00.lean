theorem mem_places {big ws : List Cond} (ps : List Nat) (h : ws = ps.filterMap (fun i => big[i]?)) : ∀ w ∈ ws, w ∈ big := by
  intro w hw
  rw [h] at hw
  obtain ⟨i, -, hi⟩ := List.mem_filterMap.mp hw
  exact List.mem_of_getElem? hi
set_option maxRecDepth 100000 in
theorem wsL_law_r1_in : ∀ w ∈ wsL_law_r1, w ∈ lw_tbl := mem_places [114, 115, 98, 964, 965, 106, 116, 117, 118, 119, 120, 121, 122, 123, 99, 342, 343, 344, 345, 192, 193, 101, 346, 222] (by decide +kernel)
set_option maxRecDepth 100000 in
theorem wsL_law_r2_in : ∀ w ∈ wsL_law_r2, w ∈ lw_tbl := mem_places [223, 102, 347, 256, 257, 103, 348, 190, 349, 279, 280, 104, 350, 320, 351, 352, 322, 105, 125, 126, 127, 131, 135, 137] (by decide +kernel)
set_option maxRecDepth 100000 in
theorem wsL_law_r3_in : ∀ w ∈ wsL_law_r3, w ∈ lw_tbl := mem_places [140, 142, 144, 146, 149, 153, 155, 157, 159, 161, 128, 129, 100, 130, 195, 196, 197, 198, 199, 202, 203, 205, 207, 225] (by decide +kernel)
set_option maxRecDepth 100000 in
theorem wsL_law_r4_in : ∀ w ∈ wsL_law_r4, w ∈ lw_tbl := mem_places [226, 227, 228, 230, 232, 234, 236, 238, 239, 240, 259, 260, 261, 262, 264, 265, 266, 267, 282, 283, 284, 285, 287, 288] (by decide +kernel)
set_option maxRecDepth 100000 in
theorem wsL_law_r5_in : ∀ w ∈ wsL_law_r5, w ∈ lw_tbl := mem_places [289, 290, 291, 293, 295, 297, 299, 324, 325, 326, 327, 328, 330, 331, 966, 967, 968, 969, 970, 972, 977, 986, 987, 996] (by decide +kernel)
set_option maxRecDepth 100000 in
theorem wsL_law_r6_in : ∀ w ∈ wsL_law_r6, w ∈ lw_tbl := mem_places [998, 1073, 999, 1000, 1001, 1002, 376, 377, 378, 379, 380, 381, 382, 385, 0, 386, 1074, 1075, 1076, 1077, 1078, 978, 1079, 1080] (by decide +kernel)
set_option maxRecDepth 100000 in
theorem wsL_law_r7_in : ∀ w ∈ wsL_law_r7, w ∈ lw_tbl := mem_places [1081, 387, 388, 389, 390, 1082, 1083, 1084, 1085, 391, 392, 393, 394, 397, 1, 398, 401, 2, 402, 405, 3, 406, 407, 409] (by decide +kernel)
set_option maxRecDepth 100000 in
theorem wsL_law_r8_in : ∀ w ∈ wsL_law_r8, w ∈ lw_tbl := mem_places [4, 410, 413, 5, 414, 415, 416, 417, 418, 420, 6, 421, 422, 423, 424, 425, 427, 7, 428, 429, 431, 8, 432, 433] (by decide +kernel)
set_option maxRecDepth 100000 in
theorem wsL_law_r9_in : ∀ w ∈ wsL_law_r9, w ∈ lw_tbl := mem_places [434, 435, 439, 9, 440, 441, 442, 443, 107, 444, 1430, 445, 446, 447, 448, 449, 1431, 451, 452, 453, 454, 455, 456, 457] (by decide +kernel)
set_option maxRecDepth 100000 in
theorem wsL_law_r10_in : ∀ w ∈ wsL_law_r10, w ∈ lw_tbl := mem_places [458, 459, 460, 108, 461, 462, 463, 464, 465, 467, 468, 109, 469, 470, 471, 110, 472, 473, 474, 475, 476, 477, 478, 479] (by decide +kernel)
set_option maxRecDepth 100000 in
theorem wsL_law_r11_in : ∀ w ∈ wsL_law_r11, w ∈ lw_tbl := mem_places [480, 481, 482, 483, 485, 487, 495, 497, 10, 498, 499, 501, 11, 502, 503, 505, 12, 506, 508, 510, 13, 511, 514, 14] (by decide +kernel)
set_option maxRecDepth 100000 in
theorem wsL_law_r12_in : ∀ w ∈ wsL_law_r12, w ∈ lw_tbl := mem_places [515, 516, 518, 15, 519, 520, 522, 16, 523, 524, 526, 17, 527, 530, 18, 531, 534, 19, 535, 536, 538, 537, 111, 1086] (by decide +kernel)
set_option maxRecDepth 100000 in
theorem wsL_law_r13_in : ∀ w ∈ wsL_law_r13, w ∈ lw_tbl := mem_places [1087, 1088, 1089, 980, 982, 973, 974, 975, 976, 984, 979, 981, 971, 997, 1090, 1092, 62, 1093, 983, 985, 1098, 1099, 1100, 1101] (by decide +kernel)
set_option maxRecDepth 100000 in
theorem wsL_law_r14_in : ∀ w ∈ wsL_law_r14, w ∈ lw_tbl := mem_places [1094, 1096, 63, 1097, 1102, 1104, 64, 1105, 1106, 1108, 65, 1109, 1114, 1110, 1112, 66, 1113, 1115, 1117, 67, 1118, 1119, 1121, 68] (by decide +kernel)
set_option maxRecDepth 100000 in
theorem wsL_law_r15_in : ∀ w ∈ wsL_law_r15, w ∈ lw_tbl := mem_places [1122, 1123, 1125, 69, 1126, 1127, 1129, 70, 1130, 540, 541, 542, 543, 1131, 1132, 1133, 1134, 544, 545, 546, 547, 548, 549, 550] (by decide +kernel)
set_option maxRecDepth 100000 in
theorem wsL_law_r16_in : ∀ w ∈ wsL_law_r16, w ∈ lw_tbl := mem_places [553, 20, 554, 555, 557, 21, 558, 559, 561, 22, 562, 1135, 1136, 1137, 1138, 1139, 1141, 71, 1142, 1143, 1145, 72, 1146, 1147] (by decide +kernel)
set_option maxRecDepth 100000 in
theorem wsL_law_r17_in : ∀ w ∈ wsL_law_r17, w ∈ lw_tbl := mem_places [1149, 73, 1150, 563, 564, 565, 566, 569, 23, 570, 575, 24, 576, 1151, 1152, 1153, 1154, 1159, 1155, 1157, 74, 1158, 1160, 1162] (by decide +kernel)
set_option maxRecDepth 100000 in
theorem wsL_law_r18_in : ∀ w ∈ wsL_law_r18, w ∈ lw_tbl := mem_places [75, 1163, 577, 578, 579, 580, 581, 582, 583, 586, 25, 587, 588, 590, 26, 591, 592, 594, 27, 595, 596, 1164, 1165, 1166] (by decide +kernel)
set_option maxRecDepth 100000 in
theorem wsL_law_r19_in : ∀ w ∈ wsL_law_r19, w ∈ lw_tbl := mem_places [1167, 1171, 1168, 1169, 1170, 1172, 1174, 76, 1175, 1176, 1178, 77, 1179, 1180, 1182, 78, 1183, 597, 598, 599, 600, 1184, 1185, 1186] (by decide +kernel)
set_option maxRecDepth 100000 in
theorem wsL_law_r20_in : ∀ w ∈ wsL_law_r20, w ∈ lw_tbl := mem_places [1187, 602, 603, 604, 605, 1188, 1189, 1190, 1191, 606, 607, 608, 609, 610, 611, 612, 1192, 1193, 1194, 1195, 1196, 1197, 1199, 79] (by decide +kernel)
set_option maxRecDepth 100000 in
theorem wsL_law_r21_in : ∀ w ∈ wsL_law_r21, w ∈ lw_tbl := mem_places [1200, 613, 614, 615, 616, 1201, 1202, 1203, 1204, 1205, 617, 618, 619, 620, 1206, 1207, 1208, 1209, 1210, 621, 622, 623, 624, 627] (by decide +kernel)
set_option maxRecDepth 100000 in
theorem wsL_law_r22_in : ∀ w ∈ wsL_law_r22, w ∈ lw_tbl := mem_places [28, 628, 630, 1211, 1212, 1213, 1214, 1215, 1217, 80, 1218, 632, 633, 634, 635, 1219, 1220, 1221, 1222, 636, 637, 638, 639, 642] (by decide +kernel)
set_option maxRecDepth 100000 in
theorem wsL_law_r23_in : ∀ w ∈ wsL_law_r23, w ∈ lw_tbl := mem_places [29, 643, 644, 646, 30, 647, 650, 31, 651, 652, 654, 32, 655, 1223, 1224, 1225, 1226, 1227, 1229, 81, 1230, 1231, 1233, 82] (by decide +kernel)
set_option maxRecDepth 100000 in
theorem wsL_law_r24_in : ∀ w ∈ wsL_law_r24, w ∈ lw_tbl := mem_places [1234, 1235, 1237, 83, 1238, 656, 657, 658, 659, 1239, 1240, 1241, 1242, 662, 663, 664, 665, 668, 33, 669, 670, 672, 34, 673] (by decide +kernel)
set_option maxRecDepth 100000 in
theorem wsL_law_r25_in : ∀ w ∈ wsL_law_r25, w ∈ lw_tbl := mem_places [674, 676, 35, 677, 681, 682, 112, 683, 678, 679, 680, 684, 685, 686, 1243, 1244, 1245, 1246, 1247, 1248, 1250, 84, 1251, 1252] (by decide +kernel)
set_option maxRecDepth 100000 in
theorem wsL_law_r26_in : ∀ w ∈ wsL_law_r26, w ∈ lw_tbl := mem_places [1254, 85, 1255, 1256, 1257, 1258, 687, 688, 689, 690, 693, 36, 694, 695, 697, 37, 698, 699, 700, 701, 704, 38, 705, 1259] (by decide +kernel)
set_option maxRecDepth 100000 in
theorem wsL_law_r27_in : ∀ w ∈ wsL_law_r27, w ∈ lw_tbl := mem_places [1260, 1261, 1262, 1263, 988, 989, 990, 1264, 1266, 86, 1267, 1268, 1270, 87, 1271, 706, 707, 708, 709, 712, 39, 713, 714, 1272] (by decide +kernel)
set_option maxRecDepth 100000 in
theorem wsL_law_r28_in : ∀ w ∈ wsL_law_r28, w ∈ lw_tbl := mem_places [1273, 1274, 1275, 715, 716, 717, 718, 1276, 1277, 1278, 1279, 1280, 1281, 1283, 88, 1284, 719, 720, 721, 722, 1285, 1286, 1287, 1288] (by decide +kernel)
set_option maxRecDepth 100000 in
theorem wsL_law_r29_in : ∀ w ∈ wsL_law_r29, w ∈ lw_tbl := mem_places [723, 724, 725, 726, 1289, 1290, 1291, 1292, 1293, 728, 729, 730, 731, 1294, 1295, 1296, 1297, 733, 734, 735, 736, 1298, 1299, 1300] (by decide +kernel)
set_option maxRecDepth 100000 in
theorem wsL_law_r30_in : ∀ w ∈ wsL_law_r30, w ∈ lw_tbl := mem_places [1301, 737, 738, 739, 740, 743, 40, 744, 1302, 1303, 1304, 1305, 745, 746, 747, 748, 751, 41, 752, 755, 756, 113, 757, 758] (by decide +kernel)
set_option maxRecDepth 100000 in
theorem wsL_law_r31_in : ∀ w ∈ wsL_law_r31, w ∈ lw_tbl := mem_places [759, 760, 761, 763, 42, 764, 766, 768, 43, 769, 770, 771, 772, 773, 774, 775, 776, 777, 778, 780, 782, 44, 783, 784] (by decide +kernel)
set_option maxRecDepth 100000 in
theorem wsL_law_r32_in : ∀ w ∈ wsL_law_r32, w ∈ lw_tbl := mem_places [786, 45, 787, 788, 790, 46, 791, 1306, 1307, 1308, 1309, 1310, 1311, 991, 992, 993, 994, 995, 1312, 1314, 89, 1315, 1316, 1317] (by decide +kernel)
set_option maxRecDepth 100000 in
theorem wsL_law_r33_in : ∀ w ∈ wsL_law_r33, w ∈ lw_tbl := mem_places [1318, 1319, 1321, 90, 1322, 1323, 1325, 91, 1326, 792, 793, 794, 795, 796, 798, 47, 799, 1327, 1328, 1329, 1330, 800, 801, 802] (by decide +kernel)
set_option maxRecDepth 100000 in
theorem wsL_law_r34_in : ∀ w ∈ wsL_law_r34, w ∈ lw_tbl := mem_places [803, 806, 48, 807, 808, 810, 49, 811, 1331, 1332, 1333, 1334, 1335, 1337, 92, 1338, 1339, 1341, 93, 1342, 812, 813, 814, 815] (by decide +kernel)
set_option maxRecDepth 100000 in
theorem wsL_law_r35_in : ∀ w ∈ wsL_law_r35, w ∈ lw_tbl := mem_places [816, 817, 818, 819, 820, 824, 825, 826, 821, 822, 823, 1343, 1344, 1345, 1346, 1347, 1348, 1349, 1350, 827, 828, 829, 830, 1351] (by decide +kernel)
set_option maxRecDepth 100000 in
theorem wsL_law_r36_in : ∀ w ∈ wsL_law_r36, w ∈ lw_tbl := mem_places [1352, 1353, 1354, 831, 832, 833, 834, 835, 836, 837, 838, 839, 840, 841, 842, 843, 1355, 1356, 1357, 1358, 1359, 1360, 1362, 94] (by decide +kernel)
set_option maxRecDepth 100000 in
theorem wsL_law_r37_in : ∀ w ∈ wsL_law_r37, w ∈ lw_tbl := mem_places [1363, 844, 845, 846, 847, 1364, 1365, 1366, 1367, 848, 849, 850, 851, 854, 50, 855, 1368, 1369, 1370, 1371, 1372, 856, 857, 858] (by decide +kernel)
set_option maxRecDepth 100000 in
theorem wsL_law_r38_in : ∀ w ∈ wsL_law_r38, w ∈ lw_tbl := mem_places [859, 1373, 1374, 1375, 1376, 860, 861, 862, 863, 864, 866, 51, 867, 870, 52, 871, 872, 874, 53, 875, 1377, 1378, 1379, 1380] (by decide +kernel)
set_option maxRecDepth 100000 in
theorem wsL_law_r39_in : ∀ w ∈ wsL_law_r39, w ∈ lw_tbl := mem_places [1381, 1383, 95, 1384, 1385, 1387, 96, 1388, 878, 879, 880, 881, 1389, 1390, 1391, 1392, 882, 883, 884, 885, 886, 888, 54, 889] (by decide +kernel)
set_option maxRecDepth 100000 in
theorem wsL_law_r40_in : ∀ w ∈ wsL_law_r40, w ∈ lw_tbl := mem_places [890, 891, 892, 893, 894, 896, 55, 897, 1393, 1394, 1395, 1396, 898, 899, 900, 901, 902, 905, 56, 906, 1397, 1398, 1399, 1400] (by decide +kernel)
set_option maxRecDepth 100000 in
theorem wsL_law_r41_in : ∀ w ∈ wsL_law_r41, w ∈ lw_tbl := mem_places [1401, 907, 908, 909, 910, 1402, 1403, 1404, 1405, 911, 912, 913, 914, 1406, 1407, 1408, 1409, 915, 916, 917, 918, 919, 920, 921] (by decide +kernel)
set_option maxRecDepth 100000 in
theorem wsL_law_r42_in : ∀ w ∈ wsL_law_r42, w ∈ lw_tbl := mem_places [922, 923, 924, 927, 57, 928, 929, 1410, 1411, 1412, 1413, 930, 931, 932, 933, 936, 58, 937, 1414, 1415, 1416, 1417, 939, 940] (by decide +kernel)
set_option maxRecDepth 100000 in
theorem wsL_law_r43_in : ∀ w ∈ wsL_law_r43, w ∈ lw_tbl := mem_places [941, 942, 945, 59, 946, 949, 60, 950, 1418, 1419, 1420, 1421, 1003, 952, 953, 954, 955, 1422, 1423, 1424, 1425, 956, 957, 958] (by decide +kernel)
set_option maxRecDepth 100000 in
theorem wsL_law_r44_in : ∀ w ∈ wsL_law_r44, w ∈ lw_tbl := mem_places [959, 962, 61, 963, 1426, 1427, 1428, 1429] (by decide +kernel)
set_option maxRecDepth 100000 in
theorem inX0 : ∀ w ∈ wsX00, w ∈ lw_tbl := mem_places [163, 165, 167, 169, 171, 173, 175, 177, 179, 181, 183, 185, 187] (by decide +kernel)
set_option maxRecDepth 100000 in
theorem inX1 : ∀ w ∈ wsX10, w ∈ lw_tbl := mem_places [301, 303, 305, 307, 309, 311, 313, 315, 317] (by decide +kernel)
set_option maxRecDepth 100000 in
theorem inX2 : ∀ w ∈ wsX20, w ∈ lw_tbl := mem_places [333, 335, 337, 339] (by decide +kernel)
set_option maxRecDepth 100000 in
theorem inX3 : ∀ w ∈ wsX30, w ∈ lw_tbl := mem_places [268, 270, 272, 274, 276] (by decide +kernel)
set_option maxRecDepth 100000 in
theorem inX4 : ∀ w ∈ wsX40, w ∈ lw_tbl := mem_places [209, 211, 213, 215, 217, 219] (by decide +kernel)
set_option maxRecDepth 100000 in
theorem inX5 : ∀ w ∈ wsX50, w ∈ lw_tbl := mem_places [241, 243, 245, 247, 249, 251, 253] (by decide +kernel)
set_option maxRecDepth 100000 in
theorem inX6 : ∀ w ∈ wsX60, w ∈ lw_tbl := mem_places [353, 355, 357, 359, 361, 363, 365, 367, 369, 371, 373] (by decide +kernel)
set_option maxRecDepth 100000 in
theorem inX7 : ∀ w ∈ wsX70, w ∈ lw_tbl := mem_places [1004, 1006, 1008, 1010, 1012, 1014, 1016, 1018, 1020, 1022, 1024, 1026, 1028, 1030, 1032, 1034, 1036, 1038, 1040, 1042, 1044, 1046, 1048, 1050, 1052, 1054, 1056, 1058, 1060, 1062, 1064, 1066, 1068, 1070] (by decide +kernel)
theorem wsL_law_rows : ∀ w ∈ wsL_law_r1 ++ (wsL_law_r2 ++ (wsL_law_r3 ++ (wsL_law_r4 ++ (wsL_law_r5 ++ (wsL_law_r6 ++ (wsL_law_r7 ++ (wsL_law_r8 ++ (wsL_law_r9 ++ (wsL_law_r10 ++ (wsL_law_r11 ++ (wsL_law_r12 ++ (wsL_law_r13 ++ (wsL_law_r14 ++ (wsL_law_r15 ++ (wsL_law_r16 ++ (wsL_law_r17 ++ (wsL_law_r18 ++ (wsL_law_r19 ++ (wsL_law_r20 ++ (wsL_law_r21 ++ (wsL_law_r22 ++ (wsL_law_r23 ++ (wsL_law_r24 ++ (wsL_law_r25 ++ (wsL_law_r26 ++ (wsL_law_r27 ++ (wsL_law_r28 ++ (wsL_law_r29 ++ (wsL_law_r30 ++ (wsL_law_r31 ++ (wsL_law_r32 ++ (wsL_law_r33 ++ (wsL_law_r34 ++ (wsL_law_r35 ++ (wsL_law_r36 ++ (wsL_law_r37 ++ (wsL_law_r38 ++ (wsL_law_r39 ++ (wsL_law_r40 ++ (wsL_law_r41 ++ (wsL_law_r42 ++ (wsL_law_r43 ++ (wsL_law_r44))))))))))))))))))))))))))))))))))))))))))), w ∈ lw_tbl := fun w h => (List.mem_append.mp h).elim (wsL_law_r1_in w) (fun h => (List.mem_append.mp h).elim (wsL_law_r2_in w) (fun h => (List.mem_append.mp h).elim (wsL_law_r3_in w) (fun h => (List.mem_append.mp h).elim (wsL_law_r4_in w) (fun h => (List.mem_append.mp h).elim (wsL_law_r5_in w) (fun h => (List.mem_append.mp h).elim (wsL_law_r6_in w) (fun h => (List.mem_append.mp h).elim (wsL_law_r7_in w) (fun h => (List.mem_append.mp h).elim (wsL_law_r8_in w) (fun h => (List.mem_append.mp h).elim (wsL_law_r9_in w) (fun h => (List.mem_append.mp h).elim (wsL_law_r10_in w) (fun h => (List.mem_append.mp h).elim (wsL_law_r11_in w) (fun h => (List.mem_append.mp h).elim (wsL_law_r12_in w) (fun h => (List.mem_append.mp h).elim (wsL_law_r13_in w) (fun h => (List.mem_append.mp h).elim (wsL_law_r14_in w) (fun h => (List.mem_append.mp h).elim (wsL_law_r15_in w) (fun h => (List.mem_append.mp h).elim (wsL_law_r16_in w) (fun h => (List.mem_append.mp h).elim (wsL_law_r17_in w) (fun h => (List.mem_append.mp h).elim (wsL_law_r18_in w) (fun h => (List.mem_append.mp h).elim (wsL_law_r19_in w) (fun h => (List.mem_append.mp h).elim (wsL_law_r20_in w) (fun h => (List.mem_append.mp h).elim (wsL_law_r21_in w) (fun h => (List.mem_append.mp h).elim (wsL_law_r22_in w) (fun h => (List.mem_append.mp h).elim (wsL_law_r23_in w) (fun h => (List.mem_append.mp h).elim (wsL_law_r24_in w) (fun h => (List.mem_append.mp h).elim (wsL_law_r25_in w) (fun h => (List.mem_append.mp h).elim (wsL_law_r26_in w) (fun h => (List.mem_append.mp h).elim (wsL_law_r27_in w) (fun h => (List.mem_append.mp h).elim (wsL_law_r28_in w) (fun h => (List.mem_append.mp h).elim (wsL_law_r29_in w) (fun h => (List.mem_append.mp h).elim (wsL_law_r30_in w) (fun h => (List.mem_append.mp h).elim (wsL_law_r31_in w) (fun h => (List.mem_append.mp h).elim (wsL_law_r32_in w) (fun h => (List.mem_append.mp h).elim (wsL_law_r33_in w) (fun h => (List.mem_append.mp h).elim (wsL_law_r34_in w) (fun h => (List.mem_append.mp h).elim (wsL_law_r35_in w) (fun h => (List.mem_append.mp h).elim (wsL_law_r36_in w) (fun h => (List.mem_append.mp h).elim (wsL_law_r37_in w) (fun h => (List.mem_append.mp h).elim (wsL_law_r38_in w) (fun h => (List.mem_append.mp h).elim (wsL_law_r39_in w) (fun h => (List.mem_append.mp h).elim (wsL_law_r40_in w) (fun h => (List.mem_append.mp h).elim (wsL_law_r41_in w) (fun h => (List.mem_append.mp h).elim (wsL_law_r42_in w) (fun h => (List.mem_append.mp h).elim (wsL_law_r43_in w) (fun h => wsL_law_r44_in w h)))))))))))))))))))))))))))))))))))))))))))
theorem wsL_law_in : ∀ w ∈ wsL_law, w ∈ lw_tbl := fun w h => (List.mem_append.mp h).elim (fun h => (List.mem_append.mp h).elim (fun h => (List.mem_append.mp h).elim (fun h => (List.mem_append.mp h).elim (fun h => (List.mem_append.mp h).elim (fun h => (List.mem_append.mp h).elim (fun h => (List.mem_append.mp h).elim (fun h => (List.mem_append.mp h).elim (fun h => (List.mem_append.mp h).elim (fun h => wsL_law_rows w h) (inX6 w)) (inX7 w)) (inX0 w)) (inX4 w)) (inX5 w)) (inX3 w)) (inX1 w)) (inX2 w)) (fun h => absurd h List.not_mem_nil)
