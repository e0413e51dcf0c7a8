theorem in_pos {big : List Cond} (ws : List Cond) (ps : List Nat) (hp : ws = ps.filterMap (fun i => big[i]?)) : ∀ w ∈ ws, w ∈ big := by
  intro w hw
  rw [hp] at hw
  obtain ⟨i, -, hi⟩ := List.mem_filterMap.mp hw
  exact List.mem_of_getElem? hi
set_option maxRecDepth 20000 in
theorem wsL_in_1 : ∀ w ∈ wsL_law_r1, w ∈ lw_tbl := in_pos _ [81, 82, 63, 1058, 1059, 73, 83, 84, 85, 86, 87, 88, 89, 90, 64, 278, 103, 104, 65, 279, 169, 110, 66, 280] (by decide +kernel)
set_option maxRecDepth 20000 in
theorem wsL_in_2 : ∀ w ∈ wsL_law_r2, w ∈ lw_tbl := in_pos _ [171, 172, 67, 281, 190, 192, 68, 282, 211, 212, 69, 283, 227, 228, 70, 284, 261, 262, 72, 285, 92, 93, 94, 102] (by decide +kernel)
set_option maxRecDepth 20000 in
theorem wsL_in_3 : ∀ w ∈ wsL_law_r3, w ∈ lw_tbl := in_pos _ [95, 96, 105, 106, 107, 108, 109, 130, 128, 131, 132, 133, 134, 135, 136, 137, 138, 139, 140, 141, 129, 112, 113, 114] (by decide +kernel)
set_option maxRecDepth 20000 in
theorem wsL_in_4 : ∀ w ∈ wsL_law_r4, w ∈ lw_tbl := in_pos _ [115, 116, 117, 118, 174, 175, 176, 177, 178, 179, 180, 194, 195, 196, 197, 201, 199, 202, 203, 214, 215, 216, 217, 218] (by decide +kernel)
set_option maxRecDepth 20000 in
theorem wsL_in_5 : ∀ w ∈ wsL_law_r5, w ∈ lw_tbl := in_pos _ [219, 230, 231, 232, 233, 248, 235, 236, 71, 249, 250, 251, 238, 239, 240, 241, 242, 264, 265, 266, 277, 267, 268, 269] (by decide +kernel)
set_option maxRecDepth 20000 in
theorem wsL_in_6 : ∀ w ∈ wsL_law_r6, w ∈ lw_tbl := in_pos _ [1060, 1061, 1062, 1063, 1072, 1073, 1163, 1074, 1075, 1080, 1082, 1090, 1091, 1092, 1096, 1097, 1098, 1099, 1101, 1064, 1066, 25, 1067, 1076] (by decide +kernel)
set_option maxRecDepth 20000 in
theorem wsL_in_7 : ∀ w ∈ wsL_law_r7, w ∈ lw_tbl := in_pos _ [1077, 1078, 1079, 1081, 1068, 1070, 26, 1071, 309, 310, 311, 312, 313, 314, 315, 316, 317, 318, 319, 320, 321, 322, 323, 324] (by decide +kernel)
set_option maxRecDepth 20000 in
theorem wsL_in_8 : ∀ w ∈ wsL_law_r8, w ∈ lw_tbl := in_pos _ [325, 326, 327, 328, 1164, 1165, 1166, 1167, 1168, 1083, 1169, 1170, 1171, 329, 330, 331, 332, 333, 334, 335, 336, 1172, 1173, 1174] (by decide +kernel)
set_option maxRecDepth 20000 in
theorem wsL_in_9 : ∀ w ∈ wsL_law_r9, w ∈ lw_tbl := in_pos _ [1175, 338, 339, 340, 341, 286, 342, 343, 344, 345, 346, 348, 0, 349, 350, 351, 352, 353, 354, 356, 1, 357, 358, 359] (by decide +kernel)
set_option maxRecDepth 20000 in
theorem wsL_in_10 : ∀ w ∈ wsL_law_r10, w ∈ lw_tbl := in_pos _ [360, 361, 362, 363, 364, 365, 366, 368, 2, 369, 370, 371, 372, 373, 375, 3, 376, 377, 379, 4, 380, 381, 383, 5] (by decide +kernel)
set_option maxRecDepth 20000 in
theorem wsL_in_11 : ∀ w ∈ wsL_law_r11, w ∈ lw_tbl := in_pos _ [384, 385, 386, 387, 388, 389, 390, 391, 392, 393, 394, 395, 396, 397, 398, 399, 400, 401, 402, 404, 6, 405, 406, 408] (by decide +kernel)
set_option maxRecDepth 20000 in
theorem wsL_in_12 : ∀ w ∈ wsL_law_r12, w ∈ lw_tbl := in_pos _ [7, 409, 411, 413, 8, 414, 415, 416, 417, 74, 418, 1508, 419, 420, 421, 422, 423, 1509, 425, 426, 427, 428, 429, 430] (by decide +kernel)
set_option maxRecDepth 20000 in
theorem wsL_in_13 : ∀ w ∈ wsL_law_r13, w ∈ lw_tbl := in_pos _ [431, 432, 433, 434, 75, 435, 436, 437, 438, 439, 441, 442, 76, 443, 444, 445, 77, 446, 447, 448, 449, 450, 451, 452] (by decide +kernel)
set_option maxRecDepth 20000 in
theorem wsL_in_14 : ∀ w ∈ wsL_law_r14, w ∈ lw_tbl := in_pos _ [453, 454, 455, 456, 457, 459, 461, 468, 470, 9, 471, 472, 474, 10, 475, 477, 479, 11, 480, 481, 483, 12, 484, 485] (by decide +kernel)
set_option maxRecDepth 20000 in
theorem wsL_in_15 : ∀ w ∈ wsL_law_r15, w ∈ lw_tbl := in_pos _ [486, 487, 488, 489, 491, 13, 492, 493, 495, 14, 496, 497, 498, 499, 500, 501, 502, 503, 504, 505, 506, 507, 508, 509] (by decide +kernel)
set_option maxRecDepth 20000 in
theorem wsL_in_16 : ∀ w ∈ wsL_law_r16, w ∈ lw_tbl := in_pos _ [510, 511, 512, 517, 513, 514, 515, 519, 520, 521, 522, 524, 525, 526, 527, 528, 529, 530, 531, 532, 533, 534, 535, 536] (by decide +kernel)
set_option maxRecDepth 20000 in
theorem wsL_in_17 : ∀ w ∈ wsL_law_r17, w ∈ lw_tbl := in_pos _ [537, 538, 539, 540, 541, 543, 542, 78, 544, 545, 546, 547, 549, 550, 551, 552, 553, 554, 555, 556, 1176, 1177, 1178, 1179] (by decide +kernel)
set_option maxRecDepth 20000 in
theorem wsL_in_18 : ∀ w ∈ wsL_law_r18, w ∈ lw_tbl := in_pos _ [1088, 1084, 1086, 1089, 1180, 1182, 27, 1183, 1085, 1188, 1189, 1190, 1191, 1087, 1184, 1186, 28, 1187, 1192, 1194, 29, 1195, 1196, 1198] (by decide +kernel)
set_option maxRecDepth 20000 in
theorem wsL_in_19 : ∀ w ∈ wsL_law_r19, w ∈ lw_tbl := in_pos _ [30, 1199, 1200, 1202, 31, 1203, 1204, 1206, 32, 1207, 1208, 1210, 33, 1211, 1212, 1214, 34, 1215, 1216, 1218, 35, 1219, 1220, 1222] (by decide +kernel)
set_option maxRecDepth 20000 in
theorem wsL_in_20 : ∀ w ∈ wsL_law_r20, w ∈ lw_tbl := in_pos _ [36, 1223, 1224, 1226, 37, 1227, 557, 558, 559, 560, 1228, 1229, 1230, 1231, 561, 562, 563, 564, 565, 566, 567, 568, 569, 570] (by decide +kernel)
set_option maxRecDepth 20000 in
theorem wsL_in_21 : ∀ w ∈ wsL_law_r21, w ∈ lw_tbl := in_pos _ [571, 572, 573, 574, 575, 576, 577, 578, 579, 580, 581, 582, 583, 584, 585, 586, 587, 588, 592, 593, 79, 594, 589, 590] (by decide +kernel)
set_option maxRecDepth 20000 in
theorem wsL_in_22 : ∀ w ∈ wsL_law_r22, w ∈ lw_tbl := in_pos _ [79, 591, 595, 596, 597, 598, 599, 601, 15, 602, 612, 613, 614, 603, 604, 605, 606, 608, 609, 610, 611, 615, 616, 617] (by decide +kernel)
set_option maxRecDepth 20000 in
theorem wsL_in_23 : ∀ w ∈ wsL_law_r23, w ∈ lw_tbl := in_pos _ [618, 619, 620, 621, 622, 623, 624, 625, 626, 627, 628, 629, 630, 631, 632, 633, 634, 635, 636, 80, 637, 638, 639, 640] (by decide +kernel)
set_option maxRecDepth 20000 in
theorem wsL_in_24 : ∀ w ∈ wsL_law_r24, w ∈ lw_tbl := in_pos _ [1232, 1233, 1234, 1235, 1236, 1238, 38, 1239, 1240, 1242, 39, 1243, 1244, 1246, 40, 1247, 1248, 1250, 41, 1251, 1252, 1254, 42, 1255] (by decide +kernel)
set_option maxRecDepth 20000 in
theorem wsL_in_25 : ∀ w ∈ wsL_law_r25, w ∈ lw_tbl := in_pos _ [1256, 1258, 43, 1259, 1260, 1262, 44, 1263, 1264, 1266, 45, 1267, 1268, 1269, 1270, 1271, 1272, 1273, 1274, 1276, 46, 1277, 1278, 1280] (by decide +kernel)
set_option maxRecDepth 20000 in
theorem wsL_in_26 : ∀ w ∈ wsL_law_r26, w ∈ lw_tbl := in_pos _ [47, 1281, 1282, 1284, 48, 1285, 1286, 1288, 49, 1289, 1290, 1292, 50, 1293, 641, 642, 643, 644, 645, 646, 647, 648, 649, 650] (by decide +kernel)
set_option maxRecDepth 20000 in
theorem wsL_in_27 : ∀ w ∈ wsL_law_r27, w ∈ lw_tbl := in_pos _ [1294, 1295, 1296, 1297, 1302, 1298, 1300, 51, 1301, 651, 652, 653, 654, 655, 656, 657, 658, 659, 660, 661, 662, 663, 664, 665] (by decide +kernel)
set_option maxRecDepth 20000 in
theorem wsL_in_28 : ∀ w ∈ wsL_law_r28, w ∈ lw_tbl := in_pos _ [1303, 1304, 1305, 1306, 1307, 1308, 1309, 666, 667, 668, 669, 670, 671, 672, 673, 1310, 1311, 1312, 1313, 1314, 1315, 1316, 1317, 1318] (by decide +kernel)
set_option maxRecDepth 20000 in
theorem wsL_in_29 : ∀ w ∈ wsL_law_r29, w ∈ lw_tbl := in_pos _ [1319, 1320, 1321, 1322, 1323, 1324, 1325, 1326, 1327, 1329, 52, 1330, 674, 675, 676, 677, 678, 679, 680, 681, 1331, 1332, 1333, 1334] (by decide +kernel)
set_option maxRecDepth 20000 in
theorem wsL_in_30 : ∀ w ∈ wsL_law_r30, w ∈ lw_tbl := in_pos _ [682, 683, 684, 685, 686, 1335, 1336, 1337, 1338, 687, 688, 689, 690, 691, 692, 693, 694, 695, 696, 1339, 1340, 1341, 1342, 697] (by decide +kernel)
set_option maxRecDepth 20000 in
theorem wsL_in_31 : ∀ w ∈ wsL_law_r31, w ∈ lw_tbl := in_pos _ [698, 699, 700, 701, 702, 703, 704, 705, 1343, 1344, 1345, 1346, 706, 707, 708, 709, 710, 711, 712, 713, 714, 1347, 1348, 1349] (by decide +kernel)
set_option maxRecDepth 20000 in
theorem wsL_in_32 : ∀ w ∈ wsL_law_r32, w ∈ lw_tbl := in_pos _ [1350, 1351, 1353, 53, 1354, 715, 716, 717, 718, 719, 720, 721, 722, 1355, 1356, 1357, 1358, 723, 724, 725, 726, 1359, 1360, 1361] (by decide +kernel)
set_option maxRecDepth 20000 in
theorem wsL_in_33 : ∀ w ∈ wsL_law_r33, w ∈ lw_tbl := in_pos _ [1362, 727, 728, 729, 730, 1363, 1364, 1365, 1366, 731, 732, 733, 734, 735, 736, 737, 738, 744, 739, 740, 741, 742, 743, 745] (by decide +kernel)
set_option maxRecDepth 20000 in
theorem wsL_in_34 : ∀ w ∈ wsL_law_r34, w ∈ lw_tbl := in_pos _ [746, 747, 748, 749, 750, 751, 752, 753, 754, 756, 16, 757, 758, 759, 760, 761, 762, 763, 764, 765, 766, 767, 768, 769] (by decide +kernel)
set_option maxRecDepth 20000 in
theorem wsL_in_35 : ∀ w ∈ wsL_law_r35, w ∈ lw_tbl := in_pos _ [770, 771, 772, 773, 774, 775, 776, 777, 778, 779, 1367, 1368, 1369, 1370, 1371, 1373, 54, 1374, 1375, 1376, 1378, 55, 1379, 781] (by decide +kernel)
set_option maxRecDepth 20000 in
theorem wsL_in_36 : ∀ w ∈ wsL_law_r36, w ∈ lw_tbl := in_pos _ [782, 783, 784, 785, 786, 787, 788, 789, 1380, 1381, 1382, 1383, 790, 791, 792, 793, 794, 795, 796, 797, 798, 1384, 1385, 1386] (by decide +kernel)
set_option maxRecDepth 20000 in
theorem wsL_in_37 : ∀ w ∈ wsL_law_r37, w ∈ lw_tbl := in_pos _ [1387, 799, 800, 801, 802, 803, 804, 805, 806, 807, 808, 809, 1388, 1389, 1390, 1391, 1392, 1394, 56, 1395, 810, 811, 812, 813] (by decide +kernel)
set_option maxRecDepth 20000 in
theorem wsL_in_38 : ∀ w ∈ wsL_law_r38, w ∈ lw_tbl := in_pos _ [814, 815, 816, 817, 818, 1396, 1397, 1398, 1399, 819, 820, 821, 822, 823, 825, 17, 826, 827, 828, 829, 830, 831, 832, 833] (by decide +kernel)
set_option maxRecDepth 20000 in
theorem wsL_in_39 : ∀ w ∈ wsL_law_r39, w ∈ lw_tbl := in_pos _ [1400, 1401, 1402, 1403, 1404, 1406, 57, 1407, 834, 835, 836, 837, 1408, 1409, 1410, 1411, 838, 839, 840, 841, 842, 843, 844, 845] (by decide +kernel)
set_option maxRecDepth 20000 in
theorem wsL_in_40 : ∀ w ∈ wsL_law_r40, w ∈ lw_tbl := in_pos _ [846, 847, 849, 18, 850, 851, 852, 854, 19, 855, 856, 857, 858, 859, 861, 20, 862, 863, 864, 865, 866, 1412, 1413, 1414] (by decide +kernel)
set_option maxRecDepth 20000 in
theorem wsL_in_41 : ∀ w ∈ wsL_law_r41, w ∈ lw_tbl := in_pos _ [1415, 1416, 1417, 1093, 1095, 1418, 1420, 58, 1421, 1094, 1422, 1423, 1424, 1425, 1426, 1427, 867, 868, 869, 870, 871, 872, 873, 874] (by decide +kernel)
set_option maxRecDepth 20000 in
theorem wsL_in_42 : ∀ w ∈ wsL_law_r42, w ∈ lw_tbl := in_pos _ [875, 876, 877, 1428, 1429, 1430, 1431, 878, 879, 880, 881, 882, 883, 884, 885, 886, 887, 888, 889, 890, 891, 892, 893, 894] (by decide +kernel)
set_option maxRecDepth 20000 in
theorem wsL_in_43 : ∀ w ∈ wsL_law_r43, w ∈ lw_tbl := in_pos _ [1432, 1433, 1434, 1435, 895, 896, 897, 898, 1436, 1437, 1438, 1439, 899, 900, 901, 902, 903, 904, 905, 906, 907, 908, 909, 910] (by decide +kernel)
set_option maxRecDepth 20000 in
theorem wsL_in_44 : ∀ w ∈ wsL_law_r44, w ∈ lw_tbl := in_pos _ [911, 1440, 1441, 1442, 1443, 1444, 1446, 59, 1447, 1448, 1450, 60, 1451, 912, 913, 914, 915, 916, 917, 918, 919, 1452, 1453, 1454] (by decide +kernel)
set_option maxRecDepth 20000 in
theorem wsL_in_45 : ∀ w ∈ wsL_law_r45, w ∈ lw_tbl := in_pos _ [1455, 920, 921, 922, 923, 1456, 1457, 1458, 1459, 924, 925, 926, 927, 928, 929, 930, 931, 932, 933, 934, 935, 936, 937, 939] (by decide +kernel)
set_option maxRecDepth 20000 in
theorem wsL_in_46 : ∀ w ∈ wsL_law_r46, w ∈ lw_tbl := in_pos _ [21, 940, 944, 941, 942, 1460, 1461, 1462, 1463, 945, 946, 947, 948, 949, 950, 951, 952, 953, 1464, 1465, 1466, 1467, 1468, 1469] (by decide +kernel)
set_option maxRecDepth 20000 in
theorem wsL_in_47 : ∀ w ∈ wsL_law_r47, w ∈ lw_tbl := in_pos _ [954, 955, 956, 957, 958, 959, 960, 961, 962, 963, 964, 965, 966, 967, 968, 969, 970, 971, 1470, 1471, 1472, 1473, 1474, 1476] (by decide +kernel)
set_option maxRecDepth 20000 in
theorem wsL_in_48 : ∀ w ∈ wsL_law_r48, w ∈ lw_tbl := in_pos _ [61, 1477, 972, 973, 974, 975, 976, 977, 978, 979, 1478, 1479, 1480, 1481, 980, 981, 982, 983, 984, 985, 986, 988, 989, 990] (by decide +kernel)
set_option maxRecDepth 20000 in
theorem wsL_in_49 : ∀ w ∈ wsL_law_r49, w ∈ lw_tbl := in_pos _ [991, 992, 993, 994, 995, 1482, 1483, 1484, 1485, 1486, 1487, 1488, 1489, 996, 997, 998, 999, 1000, 1001, 1002, 1003, 1004, 1005, 1006] (by decide +kernel)
set_option maxRecDepth 20000 in
theorem wsL_in_50 : ∀ w ∈ wsL_law_r50, w ∈ lw_tbl := in_pos _ [1007, 1008, 1009, 1010, 1011, 1012, 1013, 1015, 22, 1016, 1017, 1018, 1019, 1020, 1021, 1022, 1023, 1490, 1491, 1492, 1493, 1024, 1025, 1026] (by decide +kernel)
set_option maxRecDepth 20000 in
theorem wsL_in_51 : ∀ w ∈ wsL_law_r51, w ∈ lw_tbl := in_pos _ [1027, 287, 1028, 1029, 1030, 1031, 1032, 1033, 1034, 1035, 1036, 1037, 1039, 23, 1040, 1041, 1042, 1043, 1044, 1494, 1495, 1496, 1497, 1498] (by decide +kernel)
set_option maxRecDepth 20000 in
theorem wsL_in_52 : ∀ w ∈ wsL_law_r52, w ∈ lw_tbl := in_pos _ [1100, 1499, 1045, 1046, 1047, 1048, 1500, 1501, 1502, 1503, 1049, 1050, 1051, 1052, 1053, 1055, 24, 1056, 1057, 1504, 1505, 1506, 1507] (by decide +kernel)
set_option maxRecDepth 20000 in
theorem wsL_inc_X9 : ∀ w ∈ wsX90, w ∈ lw_tbl := in_pos _ [288, 290, 292, 294, 296, 298, 300, 302, 304, 306] (by decide +kernel)
set_option maxRecDepth 20000 in
theorem wsL_inc_X10 : ∀ w ∈ wsX100, w ∈ lw_tbl := in_pos _ [1102, 1104, 1106, 1108, 1110, 1112, 1114, 1116, 1118, 1120, 1122, 1124, 1126, 1128, 1130, 1132, 1134, 1136, 1138, 1140, 1142, 1144, 1146, 1148, 1150, 1152, 1154, 1156, 1158, 1160] (by decide +kernel)
set_option maxRecDepth 20000 in
theorem wsL_inc_X7 : ∀ w ∈ wsX70, w ∈ lw_tbl := in_pos _ [97, 99] (by decide +kernel)
set_option maxRecDepth 20000 in
theorem wsL_inc_X8 : ∀ w ∈ wsX80, w ∈ lw_tbl := in_pos _ [142, 144, 146, 148, 150, 152, 154, 156, 158, 160, 162, 164, 166] (by decide +kernel)
set_option maxRecDepth 20000 in
theorem wsL_inc_X5 : ∀ w ∈ wsX50, w ∈ lw_tbl := in_pos _ [119, 121, 123, 125] (by decide +kernel)
set_option maxRecDepth 20000 in
theorem wsL_inc_X6 : ∀ w ∈ wsX60, w ∈ lw_tbl := in_pos _ [181, 183, 185, 187] (by decide +kernel)
set_option maxRecDepth 20000 in
theorem wsL_inc_X0 : ∀ w ∈ wsX00, w ∈ lw_tbl := in_pos _ [204, 206, 208] (by decide +kernel)
set_option maxRecDepth 20000 in
theorem wsL_inc_X4 : ∀ w ∈ wsX40, w ∈ lw_tbl := in_pos _ [220, 222, 224] (by decide +kernel)
set_option maxRecDepth 20000 in
theorem wsL_inc_X3 : ∀ w ∈ wsX30, w ∈ lw_tbl := in_pos _ [252, 254, 256, 258] (by decide +kernel)
set_option maxRecDepth 20000 in
theorem wsL_inc_X2 : ∀ w ∈ wsX20, w ∈ lw_tbl := in_pos _ [270, 272, 274] (by decide +kernel)
set_option maxRecDepth 20000 in
theorem wsL_inc_X1 : ∀ w ∈ wsX10, w ∈ lw_tbl := in_pos _ [243, 245] (by decide +kernel)
theorem wsL_law_in : ∀ w ∈ wsL_law, w ∈ lw_tbl := List.forall_mem_append.mpr ⟨(List.forall_mem_append.mpr ⟨(List.forall_mem_append.mpr ⟨(List.forall_mem_append.mpr ⟨(List.forall_mem_append.mpr ⟨(List.forall_mem_append.mpr ⟨(List.forall_mem_append.mpr ⟨(List.forall_mem_append.mpr ⟨(List.forall_mem_append.mpr ⟨(List.forall_mem_append.mpr ⟨(List.forall_mem_append.mpr ⟨(List.forall_mem_append.mpr ⟨(List.forall_mem_append.mpr ⟨wsL_in_1, (List.forall_mem_append.mpr ⟨wsL_in_2, (List.forall_mem_append.mpr ⟨wsL_in_3, (List.forall_mem_append.mpr ⟨wsL_in_4, (List.forall_mem_append.mpr ⟨wsL_in_5, (List.forall_mem_append.mpr ⟨wsL_in_6, (List.forall_mem_append.mpr ⟨wsL_in_7, (List.forall_mem_append.mpr ⟨wsL_in_8, (List.forall_mem_append.mpr ⟨wsL_in_9, (List.forall_mem_append.mpr ⟨wsL_in_10, (List.forall_mem_append.mpr ⟨wsL_in_11, (List.forall_mem_append.mpr ⟨wsL_in_12, (List.forall_mem_append.mpr ⟨wsL_in_13, (List.forall_mem_append.mpr ⟨wsL_in_14, (List.forall_mem_append.mpr ⟨wsL_in_15, (List.forall_mem_append.mpr ⟨wsL_in_16, (List.forall_mem_append.mpr ⟨wsL_in_17, (List.forall_mem_append.mpr ⟨wsL_in_18, (List.forall_mem_append.mpr ⟨wsL_in_19, (List.forall_mem_append.mpr ⟨wsL_in_20, (List.forall_mem_append.mpr ⟨wsL_in_21, (List.forall_mem_append.mpr ⟨wsL_in_22, (List.forall_mem_append.mpr ⟨wsL_in_23, (List.forall_mem_append.mpr ⟨wsL_in_24, (List.forall_mem_append.mpr ⟨wsL_in_25, (List.forall_mem_append.mpr ⟨wsL_in_26, (List.forall_mem_append.mpr ⟨wsL_in_27, (List.forall_mem_append.mpr ⟨wsL_in_28, (List.forall_mem_append.mpr ⟨wsL_in_29, (List.forall_mem_append.mpr ⟨wsL_in_30, (List.forall_mem_append.mpr ⟨wsL_in_31, (List.forall_mem_append.mpr ⟨wsL_in_32, (List.forall_mem_append.mpr ⟨wsL_in_33, (List.forall_mem_append.mpr ⟨wsL_in_34, (List.forall_mem_append.mpr ⟨wsL_in_35, (List.forall_mem_append.mpr ⟨wsL_in_36, (List.forall_mem_append.mpr ⟨wsL_in_37, (List.forall_mem_append.mpr ⟨wsL_in_38, (List.forall_mem_append.mpr ⟨wsL_in_39, (List.forall_mem_append.mpr ⟨wsL_in_40, (List.forall_mem_append.mpr ⟨wsL_in_41, (List.forall_mem_append.mpr ⟨wsL_in_42, (List.forall_mem_append.mpr ⟨wsL_in_43, (List.forall_mem_append.mpr ⟨wsL_in_44, (List.forall_mem_append.mpr ⟨wsL_in_45, (List.forall_mem_append.mpr ⟨wsL_in_46, (List.forall_mem_append.mpr ⟨wsL_in_47, (List.forall_mem_append.mpr ⟨wsL_in_48, (List.forall_mem_append.mpr ⟨wsL_in_49, (List.forall_mem_append.mpr ⟨wsL_in_50, (List.forall_mem_append.mpr ⟨wsL_in_51, wsL_in_52⟩)⟩)⟩)⟩)⟩)⟩)⟩)⟩)⟩)⟩)⟩)⟩)⟩)⟩)⟩)⟩)⟩)⟩)⟩)⟩)⟩)⟩)⟩)⟩)⟩)⟩)⟩)⟩)⟩)⟩)⟩)⟩)⟩)⟩)⟩)⟩)⟩)⟩)⟩)⟩)⟩)⟩)⟩)⟩)⟩)⟩)⟩)⟩)⟩)⟩)⟩), wsL_inc_X9⟩), wsL_inc_X10⟩), wsL_inc_X7⟩), wsL_inc_X8⟩), wsL_inc_X5⟩), wsL_inc_X6⟩), wsL_inc_X0⟩), wsL_inc_X4⟩), wsL_inc_X3⟩), wsL_inc_X2⟩), wsL_inc_X1⟩), fun _ h => absurd h List.not_mem_nil⟩
