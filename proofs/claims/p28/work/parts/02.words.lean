set_option maxRecDepth 20000 in
theorem wsL_law_r1_in : GoodIn lw_tbl wsL_law_r1 := goodIn_r _ [126, 127, 109, 1036, 1037, 123, 128, 129, 130, 131, 132, 133, 134, 135, 110, 442, 172, 173, 111, 443, 194, 195, 113, 444] (by decide +kernel) (by decide +kernel)
set_option maxRecDepth 20000 in
theorem wsL_law_r2_in : GoodIn lw_tbl wsL_law_r2 := goodIn_r _ [278, 279, 116, 445, 301, 302, 117, 446, 447, 336, 337, 118, 448, 357, 358, 119, 449, 381, 382, 120, 450, 403, 404, 121] (by decide +kernel) (by decide +kernel)
set_option maxRecDepth 20000 in
theorem wsL_law_r3_in : GoodIn lw_tbl wsL_law_r3 := goodIn_r _ [451, 452, 171, 453, 454, 137, 138, 139, 140, 148, 157, 175, 176, 177, 181, 183, 185, 178, 179, 112, 180, 197, 198, 199] (by decide +kernel) (by decide +kernel)
set_option maxRecDepth 20000 in
theorem wsL_law_r4_in : GoodIn lw_tbl wsL_law_r4 := goodIn_r _ [200, 201, 114, 244, 216, 217, 115, 245, 246, 248, 250, 252, 253, 255, 257, 203, 204, 205, 206, 208, 210, 219, 220, 221] (by decide +kernel) (by decide +kernel)
set_option maxRecDepth 20000 in
theorem wsL_law_r5_in : GoodIn lw_tbl wsL_law_r5 := goodIn_r _ [222, 225, 226, 224, 227, 228, 229, 230, 281, 282, 283, 284, 286, 287, 289, 291, 304, 305, 306, 308, 309, 311, 313, 315] (by decide +kernel) (by decide +kernel)
set_option maxRecDepth 20000 in
theorem wsL_law_r6_in : GoodIn lw_tbl wsL_law_r6 := goodIn_r _ [317, 318, 307, 339, 340, 341, 342, 344, 345, 347, 360, 361, 362, 363, 365, 367, 368, 369, 384, 385, 386, 387, 388, 389] (by decide +kernel) (by decide +kernel)
set_option maxRecDepth 20000 in
theorem wsL_law_r7_in : GoodIn lw_tbl wsL_law_r7 := goodIn_r _ [391, 393, 406, 407, 408, 409, 410, 122, 411, 413, 416, 417, 419, 421, 423, 412, 414, 1038, 1039, 1040, 1041, 1044, 1046, 1048] (by decide +kernel) (by decide +kernel)
set_option maxRecDepth 20000 in
theorem wsL_law_r8_in : GoodIn lw_tbl wsL_law_r8 := goodIn_r _ [1049, 1051, 1053, 1054, 1057, 1058, 1042, 1059, 1060, 1061, 1063, 1064, 1065, 1131, 1067, 1068, 1069, 1071, 482, 483, 484, 485, 486, 488] (by decide +kernel) (by decide +kernel)
set_option maxRecDepth 20000 in
theorem wsL_law_r9_in : GoodIn lw_tbl wsL_law_r9 := goodIn_r _ [0, 489, 492, 1, 493, 494, 497, 2, 498, 501, 3, 502, 505, 4, 506, 508, 509, 1132, 1133, 1134, 1135, 1045, 1052, 1136] (by decide +kernel) (by decide +kernel)
set_option maxRecDepth 20000 in
theorem wsL_law_r10_in : GoodIn lw_tbl wsL_law_r10 := goodIn_r _ [1137, 1138, 1139, 1141, 76, 1142, 510, 511, 512, 513, 516, 5, 517, 520, 6, 521, 525, 7, 526, 1143, 1144, 1145, 1146, 1147] (by decide +kernel) (by decide +kernel)
set_option maxRecDepth 20000 in
theorem wsL_law_r11_in : GoodIn lw_tbl wsL_law_r11 := goodIn_r _ [1149, 77, 1150, 1151, 1152, 1153, 1154, 1156, 78, 1157, 527, 528, 529, 530, 1158, 1159, 1160, 1161, 531, 532, 533, 534, 535, 537] (by decide +kernel) (by decide +kernel)
set_option maxRecDepth 20000 in
theorem wsL_law_r12_in : GoodIn lw_tbl wsL_law_r12 := goodIn_r _ [8, 538, 541, 9, 542, 1162, 1163, 1164, 1165, 1166, 1168, 79, 1169, 1170, 1172, 80, 1173, 1174, 1176, 81, 1177, 543, 544, 545] (by decide +kernel) (by decide +kernel)
set_option maxRecDepth 20000 in
theorem wsL_law_r13_in : GoodIn lw_tbl wsL_law_r13 := goodIn_r _ [546, 547, 549, 10, 550, 551, 552, 124, 553, 554, 555, 556, 1178, 1179, 1180, 1181, 1182, 1183, 1184, 1185, 1187, 82, 1188, 1043] (by decide +kernel) (by decide +kernel)
set_option maxRecDepth 20000 in
theorem wsL_law_r14_in : GoodIn lw_tbl wsL_law_r14 := goodIn_r _ [557, 558, 559, 560, 563, 11, 564, 567, 12, 568, 569, 571, 13, 572, 573, 575, 574, 125, 577, 579, 14, 580, 582, 584] (by decide +kernel) (by decide +kernel)
set_option maxRecDepth 20000 in
theorem wsL_law_r15_in : GoodIn lw_tbl wsL_law_r15 := goodIn_r _ [15, 585, 586, 587, 588, 589, 591, 592, 593, 595, 16, 596, 597, 599, 17, 600, 601, 602, 603, 604, 606, 18, 607, 608] (by decide +kernel) (by decide +kernel)
set_option maxRecDepth 20000 in
theorem wsL_law_r16_in : GoodIn lw_tbl wsL_law_r16 := goodIn_r _ [609, 610, 1189, 1190, 1191, 1192, 1193, 1195, 83, 1196, 612, 613, 614, 615, 1197, 1198, 1199, 1200, 1050, 1201, 1203, 84, 1204, 1205] (by decide +kernel) (by decide +kernel)
set_option maxRecDepth 20000 in
theorem wsL_law_r17_in : GoodIn lw_tbl wsL_law_r17 := goodIn_r _ [1207, 85, 1208, 616, 617, 618, 619, 622, 19, 623, 1209, 1210, 1211, 1212, 1047, 624, 625, 626, 627, 630, 20, 631, 632, 635] (by decide +kernel) (by decide +kernel)
set_option maxRecDepth 20000 in
theorem wsL_law_r18_in : GoodIn lw_tbl wsL_law_r18 := goodIn_r _ [21, 636, 637, 1213, 1214, 1215, 1216, 1217, 1219, 86, 1220, 638, 639, 640, 641, 644, 22, 645, 646, 648, 23, 649, 652, 24] (by decide +kernel) (by decide +kernel)
set_option maxRecDepth 20000 in
theorem wsL_law_r19_in : GoodIn lw_tbl wsL_law_r19 := goodIn_r _ [653, 1221, 1222, 1223, 1224, 654, 655, 656, 657, 661, 25, 662, 663, 665, 26, 666, 668, 670, 27, 671, 681, 674, 28, 675] (by decide +kernel) (by decide +kernel)
set_option maxRecDepth 20000 in
theorem wsL_law_r20_in : GoodIn lw_tbl wsL_law_r20 := goodIn_r _ [676, 679, 29, 680, 1225, 1226, 1227, 1228, 1055, 1229, 1231, 87, 1232, 1056, 1233, 1235, 88, 1236, 1237, 1239, 89, 1240, 683, 684] (by decide +kernel) (by decide +kernel)
set_option maxRecDepth 20000 in
theorem wsL_law_r21_in : GoodIn lw_tbl wsL_law_r21 := goodIn_r _ [685, 686, 689, 30, 690, 694, 31, 695, 696, 698, 32, 699, 700, 701, 1241, 1242, 1243, 1244, 1245, 1247, 90, 1248, 702, 703] (by decide +kernel) (by decide +kernel)
set_option maxRecDepth 20000 in
theorem wsL_law_r22_in : GoodIn lw_tbl wsL_law_r22 := goodIn_r _ [704, 705, 708, 33, 709, 712, 34, 713, 716, 717, 718, 719, 720, 721, 722, 723, 724, 751, 752, 753, 725, 727, 35, 728] (by decide +kernel) (by decide +kernel)
set_option maxRecDepth 20000 in
theorem wsL_law_r23_in : GoodIn lw_tbl wsL_law_r23 := goodIn_r _ [731, 733, 36, 734, 738, 37, 739, 741, 742, 743, 744, 746, 748, 38, 749, 750, 756, 39, 757, 1249, 1250, 1251, 1252, 1253] (by decide +kernel) (by decide +kernel)
set_option maxRecDepth 20000 in
theorem wsL_law_r24_in : GoodIn lw_tbl wsL_law_r24 := goodIn_r _ [1255, 91, 1256, 1257, 1259, 92, 1260, 1261, 1263, 93, 1264, 758, 759, 760, 761, 764, 40, 765, 1265, 1266, 1267, 1268, 766, 767] (by decide +kernel) (by decide +kernel)
set_option maxRecDepth 20000 in
theorem wsL_law_r25_in : GoodIn lw_tbl wsL_law_r25 := goodIn_r _ [768, 769, 1269, 1270, 1271, 1272, 770, 771, 772, 773, 776, 41, 777, 1273, 1274, 1275, 1276, 779, 780, 781, 782, 785, 42, 786] (by decide +kernel) (by decide +kernel)
set_option maxRecDepth 20000 in
theorem wsL_law_r26_in : GoodIn lw_tbl wsL_law_r26 := goodIn_r _ [788, 789, 790, 791, 793, 43, 794, 796, 798, 44, 799, 800, 801, 802, 805, 45, 806, 1277, 1278, 1279, 1280, 1062, 1281, 1283] (by decide +kernel) (by decide +kernel)
set_option maxRecDepth 20000 in
theorem wsL_law_r27_in : GoodIn lw_tbl wsL_law_r27 := goodIn_r _ [94, 1284, 1285, 1287, 95, 1288, 807, 808, 809, 810, 813, 46, 814, 815, 1289, 1290, 1291, 1292, 816, 817, 818, 819, 822, 47] (by decide +kernel) (by decide +kernel)
set_option maxRecDepth 20000 in
theorem wsL_law_r28_in : GoodIn lw_tbl wsL_law_r28 := goodIn_r _ [823, 1293, 1294, 1295, 1296, 1297, 1299, 96, 1300, 824, 825, 826, 827, 830, 48, 831, 832, 833, 834, 835, 836, 1301, 1302, 1303] (by decide +kernel) (by decide +kernel)
set_option maxRecDepth 20000 in
theorem wsL_law_r29_in : GoodIn lw_tbl wsL_law_r29 := goodIn_r _ [1304, 1305, 1307, 97, 1308, 837, 838, 839, 840, 1309, 1310, 1311, 1312, 841, 842, 843, 844, 847, 49, 848, 849, 851, 50, 852] (by decide +kernel) (by decide +kernel)
set_option maxRecDepth 20000 in
theorem wsL_law_r30_in : GoodIn lw_tbl wsL_law_r30 := goodIn_r _ [1313, 1314, 1315, 1316, 1317, 1319, 98, 1320, 853, 854, 855, 856, 859, 51, 860, 862, 864, 52, 865, 868, 53, 869, 874, 54] (by decide +kernel) (by decide +kernel)
set_option maxRecDepth 20000 in
theorem wsL_law_r31_in : GoodIn lw_tbl wsL_law_r31 := goodIn_r _ [875, 876, 878, 880, 55, 881, 1321, 1322, 1323, 1324, 1325, 1327, 99, 1328, 1329, 1331, 100, 1332, 1333, 1335, 101, 1336, 882, 883] (by decide +kernel) (by decide +kernel)
set_option maxRecDepth 20000 in
theorem wsL_law_r32_in : GoodIn lw_tbl wsL_law_r32 := goodIn_r _ [884, 885, 886, 888, 56, 889, 892, 57, 893, 894, 896, 58, 897, 901, 59, 902, 905, 60, 906, 909, 61, 910, 911, 912] (by decide +kernel) (by decide +kernel)
set_option maxRecDepth 20000 in
theorem wsL_law_r33_in : GoodIn lw_tbl wsL_law_r33 := goodIn_r _ [913, 914, 915, 917, 62, 918, 1337, 1338, 1339, 1340, 1070, 1341, 1343, 102, 1344, 1066, 1345, 1347, 103, 1348, 1349, 1351, 104, 1352] (by decide +kernel) (by decide +kernel)
set_option maxRecDepth 20000 in
theorem wsL_law_r34_in : GoodIn lw_tbl wsL_law_r34 := goodIn_r _ [920, 921, 922, 923, 926, 63, 927, 930, 64, 931, 1353, 1354, 1355, 1356, 932, 933, 934, 935, 938, 65, 939, 940, 942, 66] (by decide +kernel) (by decide +kernel)
set_option maxRecDepth 20000 in
theorem wsL_law_r35_in : GoodIn lw_tbl wsL_law_r35 := goodIn_r _ [943, 947, 949, 67, 950, 1357, 1358, 1359, 1360, 1361, 1363, 105, 1364, 951, 952, 953, 954, 957, 68, 958, 1365, 1366, 1367, 1368] (by decide +kernel) (by decide +kernel)
set_option maxRecDepth 20000 in
theorem wsL_law_r36_in : GoodIn lw_tbl wsL_law_r36 := goodIn_r _ [959, 960, 961, 962, 965, 69, 966, 969, 70, 970, 1369, 1370, 1371, 1372, 971, 972, 973, 974, 1373, 1374, 1375, 1376, 975, 976] (by decide +kernel) (by decide +kernel)
set_option maxRecDepth 20000 in
theorem wsL_law_r37_in : GoodIn lw_tbl wsL_law_r37 := goodIn_r _ [977, 978, 1377, 1378, 1379, 1380, 979, 980, 981, 982, 985, 71, 986, 989, 72, 990, 991, 1381, 1382, 1383, 1384, 1385, 992, 993] (by decide +kernel) (by decide +kernel)
set_option maxRecDepth 20000 in
theorem wsL_law_r38_in : GoodIn lw_tbl wsL_law_r38 := goodIn_r _ [994, 995, 996, 998, 73, 999, 1002, 74, 1003, 1386, 1387, 1388, 1389, 1390, 1392, 106, 1393, 1394, 1396, 107, 1397, 1004, 1005, 1006] (by decide +kernel) (by decide +kernel)
set_option maxRecDepth 20000 in
theorem wsL_law_r39_in : GoodIn lw_tbl wsL_law_r39 := goodIn_r _ [1007, 1398, 1399, 1400, 1401, 1008, 1009, 1010, 1011, 1014, 75, 1015, 1402, 1403, 1404, 1405, 1016, 1017, 1018, 1019, 1406, 1407, 1408, 1409] (by decide +kernel) (by decide +kernel)
set_option maxRecDepth 20000 in
theorem wsL_law_r40_in : GoodIn lw_tbl wsL_law_r40 := goodIn_r _ [1020, 1021, 1022, 1023, 1410, 1411, 1412, 1413, 1024, 1025, 1026, 1027, 1028, 1029, 1030, 1031, 1032, 1033, 1034, 1035, 1414, 1415, 1416, 1417] (by decide +kernel) (by decide +kernel)
set_option maxRecDepth 20000 in
theorem wsL_law_r41_in : GoodIn lw_tbl wsL_law_r41 := goodIn_r _ [1418, 1419] (by decide +kernel) (by decide +kernel)
set_option maxRecDepth 20000 in
theorem wsL_X11_in : GoodIn lw_tbl wsX110 := goodIn_r _ [455, 457, 459, 461, 463, 465, 467, 469, 471, 473, 475, 477, 479] (by decide +kernel) (by decide +kernel)
set_option maxRecDepth 20000 in
theorem wsL_X12_in : GoodIn lw_tbl wsX120 := goodIn_r _ [1072, 1074, 1076, 1078, 1080, 1082, 1084, 1086, 1088, 1090, 1092, 1094, 1096, 1098, 1100, 1102, 1104, 1106, 1108, 1110, 1112, 1114, 1116, 1118, 1120, 1122, 1124, 1126, 1128] (by decide +kernel) (by decide +kernel)
set_option maxRecDepth 20000 in
theorem wsL_X4_in : GoodIn lw_tbl wsX40 := goodIn_r _ [164, 166, 168] (by decide +kernel) (by decide +kernel)
set_option maxRecDepth 20000 in
theorem wsL_X10_in : GoodIn lw_tbl wsX100 := goodIn_r _ [187, 189, 191] (by decide +kernel) (by decide +kernel)
set_option maxRecDepth 20000 in
theorem wsL_X6_in : GoodIn lw_tbl wsX60 := goodIn_r _ [259, 261, 263, 265, 267, 269, 271, 273, 275] (by decide +kernel) (by decide +kernel)
set_option maxRecDepth 20000 in
theorem wsL_X9_in : GoodIn lw_tbl wsX90 := goodIn_r _ [292, 294, 296, 298] (by decide +kernel) (by decide +kernel)
set_option maxRecDepth 20000 in
theorem wsL_X1_in : GoodIn lw_tbl wsX10 := goodIn_r _ [319, 321, 323, 325, 327, 329, 331, 333] (by decide +kernel) (by decide +kernel)
set_option maxRecDepth 20000 in
theorem wsL_X7_in : GoodIn lw_tbl wsX70 := goodIn_r _ [348, 350, 352, 354] (by decide +kernel) (by decide +kernel)
set_option maxRecDepth 20000 in
theorem wsL_X8_in : GoodIn lw_tbl wsX80 := goodIn_r _ [370, 372, 374, 376, 378] (by decide +kernel) (by decide +kernel)
set_option maxRecDepth 20000 in
theorem wsL_X2_in : GoodIn lw_tbl wsX20 := goodIn_r _ [394, 396, 398, 400] (by decide +kernel) (by decide +kernel)
set_option maxRecDepth 20000 in
theorem wsL_X0_in : GoodIn lw_tbl wsX00 := goodIn_r _ [425, 427, 429, 431, 433, 435, 437, 439] (by decide +kernel) (by decide +kernel)
set_option maxRecDepth 20000 in
theorem wsL_X3_in : GoodIn lw_tbl wsX30 := goodIn_r _ [211, 213] (by decide +kernel) (by decide +kernel)
set_option maxRecDepth 20000 in
theorem wsL_X5_in : GoodIn lw_tbl wsX50 := goodIn_r _ [231, 233, 235, 237, 239, 241] (by decide +kernel) (by decide +kernel)
theorem wsL_law_in : ∀ w ∈ wsL_law, w ∈ lw_tbl := fun w h => (((goodIn_app (goodIn_app (goodIn_app (goodIn_app (goodIn_app (goodIn_app (goodIn_app (goodIn_app (goodIn_app (goodIn_app (goodIn_app (goodIn_app (goodIn_app (goodIn_app (goodIn_app wsL_law_r1_in (goodIn_app wsL_law_r2_in (goodIn_app wsL_law_r3_in (goodIn_app wsL_law_r4_in (goodIn_app wsL_law_r5_in (goodIn_app wsL_law_r6_in (goodIn_app wsL_law_r7_in (goodIn_app wsL_law_r8_in (goodIn_app wsL_law_r9_in (goodIn_app wsL_law_r10_in (goodIn_app wsL_law_r11_in (goodIn_app wsL_law_r12_in (goodIn_app wsL_law_r13_in (goodIn_app wsL_law_r14_in (goodIn_app wsL_law_r15_in (goodIn_app wsL_law_r16_in (goodIn_app wsL_law_r17_in (goodIn_app wsL_law_r18_in (goodIn_app wsL_law_r19_in (goodIn_app wsL_law_r20_in (goodIn_app wsL_law_r21_in (goodIn_app wsL_law_r22_in (goodIn_app wsL_law_r23_in (goodIn_app wsL_law_r24_in (goodIn_app wsL_law_r25_in (goodIn_app wsL_law_r26_in (goodIn_app wsL_law_r27_in (goodIn_app wsL_law_r28_in (goodIn_app wsL_law_r29_in (goodIn_app wsL_law_r30_in (goodIn_app wsL_law_r31_in (goodIn_app wsL_law_r32_in (goodIn_app wsL_law_r33_in (goodIn_app wsL_law_r34_in (goodIn_app wsL_law_r35_in (goodIn_app wsL_law_r36_in (goodIn_app wsL_law_r37_in (goodIn_app wsL_law_r38_in (goodIn_app wsL_law_r39_in (goodIn_app wsL_law_r40_in (wsL_law_r41_in))))))))))))))))))))))))))))))))))))))))) wsL_X11_in) wsL_X12_in) wsL_X4_in) wsL_X10_in) wsL_X6_in) wsL_X9_in) wsL_X1_in) wsL_X7_in) wsL_X8_in) wsL_X2_in) wsL_X0_in) wsL_X3_in) wsL_X5_in) (fun _ h => absurd h List.not_mem_nil)) : GoodIn lw_tbl wsL_law) w h).1
theorem inlX0 : ∀ w ∈ wsX00, w ∈ wsL_law := fun _ h => List.mem_append_left _ (List.mem_append_left _ (List.mem_append_left _ (List.mem_append_right _ h)))
theorem inX0 : ∀ w ∈ wsX00, w ∈ lw_tbl := fun w h => wsL_law_in w (inlX0 w h)
theorem inlX1 : ∀ w ∈ wsX10, w ∈ wsL_law := fun _ h => List.mem_append_left _ (List.mem_append_left _ (List.mem_append_left _ (List.mem_append_left _ (List.mem_append_left _ (List.mem_append_left _ (List.mem_append_left _ (List.mem_append_right _ h)))))))
theorem inX1 : ∀ w ∈ wsX10, w ∈ lw_tbl := fun w h => wsL_law_in w (inlX1 w h)
theorem inlX2 : ∀ w ∈ wsX20, w ∈ wsL_law := fun _ h => List.mem_append_left _ (List.mem_append_left _ (List.mem_append_left _ (List.mem_append_left _ (List.mem_append_right _ h))))
theorem inX2 : ∀ w ∈ wsX20, w ∈ lw_tbl := fun w h => wsL_law_in w (inlX2 w h)
theorem inlX3 : ∀ w ∈ wsX30, w ∈ wsL_law := fun _ h => List.mem_append_left _ (List.mem_append_left _ (List.mem_append_right _ h))
theorem inX3 : ∀ w ∈ wsX30, w ∈ lw_tbl := fun w h => wsL_law_in w (inlX3 w h)
theorem inlX4 : ∀ w ∈ wsX40, w ∈ wsL_law := fun _ h => List.mem_append_left _ (List.mem_append_left _ (List.mem_append_left _ (List.mem_append_left _ (List.mem_append_left _ (List.mem_append_left _ (List.mem_append_left _ (List.mem_append_left _ (List.mem_append_left _ (List.mem_append_left _ (List.mem_append_left _ (List.mem_append_right _ h)))))))))))
theorem inX4 : ∀ w ∈ wsX40, w ∈ lw_tbl := fun w h => wsL_law_in w (inlX4 w h)
theorem inlX5 : ∀ w ∈ wsX50, w ∈ wsL_law := fun _ h => List.mem_append_left _ (List.mem_append_right _ h)
theorem inX5 : ∀ w ∈ wsX50, w ∈ lw_tbl := fun w h => wsL_law_in w (inlX5 w h)
theorem inlX6 : ∀ w ∈ wsX60, w ∈ wsL_law := fun _ h => List.mem_append_left _ (List.mem_append_left _ (List.mem_append_left _ (List.mem_append_left _ (List.mem_append_left _ (List.mem_append_left _ (List.mem_append_left _ (List.mem_append_left _ (List.mem_append_left _ (List.mem_append_right _ h)))))))))
theorem inX6 : ∀ w ∈ wsX60, w ∈ lw_tbl := fun w h => wsL_law_in w (inlX6 w h)
theorem inlX7 : ∀ w ∈ wsX70, w ∈ wsL_law := fun _ h => List.mem_append_left _ (List.mem_append_left _ (List.mem_append_left _ (List.mem_append_left _ (List.mem_append_left _ (List.mem_append_left _ (List.mem_append_right _ h))))))
theorem inX7 : ∀ w ∈ wsX70, w ∈ lw_tbl := fun w h => wsL_law_in w (inlX7 w h)
theorem inlX8 : ∀ w ∈ wsX80, w ∈ wsL_law := fun _ h => List.mem_append_left _ (List.mem_append_left _ (List.mem_append_left _ (List.mem_append_left _ (List.mem_append_left _ (List.mem_append_right _ h)))))
theorem inX8 : ∀ w ∈ wsX80, w ∈ lw_tbl := fun w h => wsL_law_in w (inlX8 w h)
theorem inlX9 : ∀ w ∈ wsX90, w ∈ wsL_law := fun _ h => List.mem_append_left _ (List.mem_append_left _ (List.mem_append_left _ (List.mem_append_left _ (List.mem_append_left _ (List.mem_append_left _ (List.mem_append_left _ (List.mem_append_left _ (List.mem_append_right _ h))))))))
theorem inX9 : ∀ w ∈ wsX90, w ∈ lw_tbl := fun w h => wsL_law_in w (inlX9 w h)
theorem inlX10 : ∀ w ∈ wsX100, w ∈ wsL_law := fun _ h => List.mem_append_left _ (List.mem_append_left _ (List.mem_append_left _ (List.mem_append_left _ (List.mem_append_left _ (List.mem_append_left _ (List.mem_append_left _ (List.mem_append_left _ (List.mem_append_left _ (List.mem_append_left _ (List.mem_append_right _ h))))))))))
theorem inX10 : ∀ w ∈ wsX100, w ∈ lw_tbl := fun w h => wsL_law_in w (inlX10 w h)
theorem inlX11 : ∀ w ∈ wsX110, w ∈ wsL_law := fun _ h => List.mem_append_left _ (List.mem_append_left _ (List.mem_append_left _ (List.mem_append_left _ (List.mem_append_left _ (List.mem_append_left _ (List.mem_append_left _ (List.mem_append_left _ (List.mem_append_left _ (List.mem_append_left _ (List.mem_append_left _ (List.mem_append_left _ (List.mem_append_left _ (List.mem_append_right _ h)))))))))))))
theorem inX11 : ∀ w ∈ wsX110, w ∈ lw_tbl := fun w h => wsL_law_in w (inlX11 w h)
theorem inlX12 : ∀ w ∈ wsX120, w ∈ wsL_law := fun _ h => List.mem_append_left _ (List.mem_append_left _ (List.mem_append_left _ (List.mem_append_left _ (List.mem_append_left _ (List.mem_append_left _ (List.mem_append_left _ (List.mem_append_left _ (List.mem_append_left _ (List.mem_append_left _ (List.mem_append_left _ (List.mem_append_left _ (List.mem_append_right _ h))))))))))))
theorem inX12 : ∀ w ∈ wsX120, w ∈ lw_tbl := fun w h => wsL_law_in w (inlX12 w h)
theorem inJ6 : ∀ w ∈ wsJ60, w ∈ lw_tbl := by decide +kernel
theorem inJ9 : ∀ w ∈ wsJ90, w ∈ lw_tbl := by decide +kernel
theorem inJ10 : ∀ w ∈ wsJ100, w ∈ lw_tbl := by decide +kernel
theorem inJ7 : ∀ w ∈ wsJ70, w ∈ lw_tbl := by decide +kernel
abbrev vwCl : List vw_C := [(RX0, TX0, 8), (RX1, TX1, 8), (RX2, TX2, 4), (RX3, TX3, 2), (RX4, TX4, 3), (RX5, TX5, 6), (RX6, TX6, 9), (RX7, TX7, 4), (RX8, TX8, 5), (RX9, TX9, 4), (RX10, TX10, 3), (RX11, TX11, 13), (RX12, TX12, 29)]
