set_option maxRecDepth 20000 in
theorem ggL_law_X9_works : GoodIn wsL_law wsX9_works := goodIn_r _ [1060, 23, 39, 27, 618, 242, 243, 22, 244, 74, 1049, 1050, 1051, 38, 1052, 101, 786, 385, 386, 387, 72, 388, 389, 390, 391, 73, 75, 909, 361, 362, 363, 364, 365, 366, 157, 2, 158, 910, 368, 369, 370, 874, 357, 358, 359, 1028, 1029, 1030, 26, 1031, 82, 79, 80, 81, 1032, 538, 539, 540, 525, 526, 527, 528, 486, 487, 488, 489, 517, 518, 519, 520, 541, 542, 543, 544, 521, 522, 523, 524, 502, 503, 504, 505, 1247, 1248, 1249, 1250, 1251, 1252, 1253, 1254, 1255, 1256, 1302, 1303, 1304, 1305, 1316, 1317, 1318, 1319, 1306, 1307, 1308, 1309] (by decide +kernel) (by decide +kernel)
set_option maxRecDepth 20000 in
theorem gL_law_X9_works : GoodIn wsL_law (wsV RL 135 RX9 yX9_works wsX9_works) := goodIn_app (goodIn_of _ (by decide +kernel)) ggL_law_X9_works
set_option maxRecDepth 20000 in
theorem ggL_law_X10_works : GoodIn wsL_law wsX10_works := goodIn_r _ [1064, 629, 630, 631, 5, 632, 124, 178, 179, 180, 1037, 1038, 1039, 1040, 125, 560, 561, 562, 563, 1041, 1042, 1043, 1044, 132, 564, 565, 566, 567, 131, 568, 569, 570, 571, 572, 573, 574, 575, 576, 577, 578, 579, 580, 581, 582, 583, 584, 585, 586, 587, 588, 589, 590, 591, 592, 593, 1257, 1258, 1259, 1260, 1261, 1262, 1263, 1264, 1265, 1266, 1267, 1268, 1269, 1270, 1271, 1272, 1273, 1274, 1275, 1276, 1277, 1278, 1279, 1280, 1281, 1282, 1283, 1284, 1285, 1286] (by decide +kernel) (by decide +kernel)
set_option maxRecDepth 20000 in
theorem gL_law_X10_works : GoodIn wsL_law (wsV RL 138 RX10 yX10_works wsX10_works) := goodIn_app (goodIn_of _ (by decide +kernel)) ggL_law_X10_works
set_option maxRecDepth 20000 in
theorem ggL_law_X9_ask : GoodIn wsL_law wsX9_ask := goodIn_r _ [1068, 39, 23, 27, 637, 638, 2, 639, 1024, 1025, 1026, 38, 1027, 101, 786, 385, 386, 22, 387, 72, 388, 389, 390, 391, 73, 74, 75, 847, 336, 337, 338, 1028, 1029, 1030, 26, 1031, 82, 79, 80, 81, 1032, 538, 539, 540, 525, 526, 527, 528, 486, 487, 488, 489, 517, 518, 519, 520, 541, 542, 543, 544, 521, 522, 523, 524, 502, 503, 504, 505, 1069, 1070, 1071, 1072, 105, 1073, 546, 547, 548, 549, 550, 551, 791, 792, 793, 104, 794, 111, 112, 1074, 1075, 1076, 1077, 1078, 1079, 1080, 1081, 107, 1082, 515, 500, 516, 1083, 1084, 689, 690, 156, 157, 158, 796, 797, 798, 799, 810, 811, 812, 813, 814, 815, 816, 817, 818, 819, 820, 821, 1247, 1248, 1249, 1250, 1251, 1252, 1253, 1254, 1255, 1256, 1316, 1317, 1318, 1319, 1302, 1303, 1304, 1305, 1306, 1307, 1308, 1309, 1323, 1324] (by decide +kernel) (by decide +kernel)
set_option maxRecDepth 20000 in
theorem gL_law_X9_ask : GoodIn wsL_law (wsV RL 139 RX9 yX9_ask wsX9_ask) := goodIn_app (goodIn_of _ (by decide +kernel)) ggL_law_X9_ask
set_option maxRecDepth 20000 in
theorem ggL_law_X10_ask : GoodIn wsL_law wsX10_ask := goodIn_r _ [1088, 134, 125, 132, 652, 653, 5, 654, 178, 179, 180, 560, 561, 562, 563, 124, 1041, 1042, 1043, 1044, 564, 565, 566, 567, 131, 568, 569, 570, 571, 572, 573, 574, 575, 576, 577, 578, 579, 580, 581, 582, 583, 584, 585, 586, 587, 588, 589, 590, 1257, 1258, 1259, 1260, 1261, 1262, 1263, 1264, 1265, 1266, 1267, 1268, 1269, 1270, 1271, 1272, 1273, 1274, 1275, 1276, 1277, 1278, 1279, 1280, 1281, 1282, 1283, 1284, 1285, 1286] (by decide +kernel) (by decide +kernel)
set_option maxRecDepth 20000 in
theorem gL_law_X10_ask : GoodIn wsL_law (wsV RL 142 RX10 yX10_ask wsX10_ask) := goodIn_app (goodIn_of _ (by decide +kernel)) ggL_law_X10_ask
set_option maxRecDepth 20000 in
theorem ggL_law_X9_drift : GoodIn wsL_law wsX9_drift := goodIn_r _ [1092, 23, 39, 156, 157, 2, 158, 637, 638, 639, 474, 475, 476, 22, 477, 74, 1093, 1094, 1095, 38, 1096, 101, 1097, 804, 786, 385, 386, 387, 72, 388, 389, 390, 391, 73, 75, 860, 254, 255, 256, 257, 242, 243, 244, 847, 336, 337, 338, 795, 491, 492, 493, 486, 487, 488, 489, 494, 495, 496, 497, 498, 499, 500, 501, 502, 503, 504, 505, 911, 507, 508, 509, 510, 511, 512, 513, 514, 515, 516, 517, 518, 519, 520, 521, 522, 523, 524, 525, 526, 527, 528, 1247, 1248, 1249, 1250, 1251, 1252, 1253, 1254, 1255, 1256, 1302, 1303, 1304, 1305, 1316, 1317, 1318, 1319] (by decide +kernel) (by decide +kernel)
set_option maxRecDepth 20000 in
theorem gL_law_X9_drift : GoodIn wsL_law (wsV RL 143 RX9 yX9_drift wsX9_drift) := goodIn_app (goodIn_of _ (by decide +kernel)) ggL_law_X9_drift
set_option maxRecDepth 20000 in
theorem ggL_law_X10_drift : GoodIn wsL_law wsX10_drift := goodIn_r _ [1101, 1102, 124, 1103, 125, 178, 179, 5, 180, 652, 653, 654, 560, 561, 562, 563, 598, 599, 600, 601, 602, 603, 604, 605, 568, 569, 570, 571, 572, 573, 574, 575, 576, 577, 578, 579, 580, 581, 582, 583, 588, 589, 590, 564, 565, 566, 567, 131, 132, 584, 585, 586, 587, 606, 607, 608, 609, 610, 611, 612, 613, 591, 592, 593, 1257, 1258, 1259, 1260, 1261, 1262, 1263, 1264, 1265, 1266, 1267, 1268, 1269, 1270, 1271, 1272, 1273, 1274, 1275, 1276, 1277, 1278, 1279, 1280, 1281, 1282, 1283, 1284, 1285, 1286] (by decide +kernel) (by decide +kernel)
set_option maxRecDepth 20000 in
theorem gL_law_X10_drift : GoodIn wsL_law (wsV RL 146 RX10 yX10_drift wsX10_drift) := goodIn_app (goodIn_of _ (by decide +kernel)) ggL_law_X10_drift
set_option maxRecDepth 20000 in
theorem ggL_law_X9_keep : GoodIn wsL_law wsX9_keep := goodIn_r _ [1107, 31, 23, 27, 637, 638, 2, 639, 1108, 1109, 1110, 30, 1111, 90, 1112, 1113, 1114, 1115, 87, 89, 1116, 385, 386, 22, 387, 72, 388, 389, 390, 391, 73, 74, 75, 1117, 1118, 1119, 26, 1120, 79, 1121, 80, 81, 82, 1247, 1248, 1249, 1250, 1251, 1252, 1253, 1254, 1255, 1256, 1310, 1311, 1312, 1302, 1303, 1304, 1305, 1306, 1307, 1308, 1309] (by decide +kernel) (by decide +kernel)
set_option maxRecDepth 20000 in
theorem gL_law_X9_keep : GoodIn wsL_law (wsV RL 147 RX9 yX9_keep wsX9_keep) := goodIn_app (goodIn_of _ (by decide +kernel)) ggL_law_X9_keep
set_option maxRecDepth 20000 in
theorem ggL_law_X10_keep : GoodIn wsL_law wsX10_keep := goodIn_r _ [1125, 127, 178, 179, 5, 180, 591, 592, 593, 1126, 1127, 1128, 1129, 124, 1257, 1258, 1259, 1260, 1261, 1262, 1263, 1264, 1265, 1266, 1267, 1268, 1269, 1270, 1271, 1272, 1273, 1274, 1275, 1276, 1277, 1278, 1279, 1280, 1281, 1282, 1283, 1284, 1285, 1286] (by decide +kernel) (by decide +kernel)
set_option maxRecDepth 20000 in
theorem gL_law_X10_keep : GoodIn wsL_law (wsV RL 150 RX10 yX10_keep wsX10_keep) := goodIn_app (goodIn_of _ (by decide +kernel)) ggL_law_X10_keep
set_option maxRecDepth 20000 in
theorem ggL_law_X9_back : GoodIn wsL_law wsX9_back := goodIn_r _ [1133, 31, 23, 27, 637, 638, 2, 639, 1108, 1109, 1110, 30, 1111, 90, 1134, 1135, 1136, 1137, 87, 89, 1116, 385, 386, 22, 387, 72, 388, 389, 390, 391, 73, 74, 75, 1117, 1118, 1119, 26, 1120, 79, 1121, 80, 81, 82, 478, 479, 480, 481, 1247, 1248, 1249, 1250, 1251, 1252, 1253, 1254, 1255, 1256, 1310, 1311, 1312, 1302, 1303, 1304, 1305, 1306, 1307, 1308, 1309] (by decide +kernel) (by decide +kernel)
set_option maxRecDepth 20000 in
theorem gL_law_X9_back : GoodIn wsL_law (wsV RL 151 RX9 yX9_back wsX9_back) := goodIn_app (goodIn_of _ (by decide +kernel)) ggL_law_X9_back
set_option maxRecDepth 20000 in
theorem ggL_law_X10_back : GoodIn wsL_law wsX10_back := goodIn_r _ [1141, 127, 124, 178, 179, 5, 180, 1126, 1127, 1128, 1129, 1257, 1258, 1259, 1260, 1261, 1262, 1263, 1264, 1265, 1266, 1267, 1268, 1269, 1270, 1271, 1272, 1273, 1274, 1275, 1276, 1277, 1278, 1279, 1280, 1281, 1282, 1283, 1284, 1285, 1286] (by decide +kernel) (by decide +kernel)
set_option maxRecDepth 20000 in
theorem gL_law_X10_back : GoodIn wsL_law (wsV RL 154 RX10 yX10_back wsX10_back) := goodIn_app (goodIn_of _ (by decide +kernel)) ggL_law_X10_back
set_option maxRecDepth 20000 in
theorem ggL_law_X9_sheet : GoodIn wsL_law wsX9_sheet := goodIn_r _ [1145, 35, 1146, 1147, 34, 1148, 157, 2, 158, 1149, 1150, 1151, 1152, 1153, 1154, 1155, 94, 95, 96, 1156, 1247, 1248, 1249, 1250, 1251, 1252, 1253, 1254, 1255, 1256, 1313, 1314, 1315] (by decide +kernel) (by decide +kernel)
set_option maxRecDepth 20000 in
theorem gL_law_X9_sheet : GoodIn wsL_law (wsV RL 155 RX9 yX9_sheet wsX9_sheet) := goodIn_app (goodIn_of _ (by decide +kernel)) ggL_law_X9_sheet
set_option maxRecDepth 20000 in
theorem ggL_law_X10_sheet : GoodIn wsL_law wsX10_sheet := goodIn_r _ [1160, 135, 136, 137, 1161, 1162, 5, 1163, 670, 1164, 178, 179, 180, 1257, 1258, 1259, 1260, 1261, 1262, 1263, 1264, 1265, 1266, 1267, 1268, 1269, 1270, 1271, 1272, 1273, 1274, 1275, 1276, 1277, 1278, 1279, 1280, 1281, 1282, 1283, 1284, 1285, 1286] (by decide +kernel) (by decide +kernel)
set_option maxRecDepth 20000 in
theorem gL_law_X10_sheet : GoodIn wsL_law (wsV RL 158 RX10 yX10_sheet wsX10_sheet) := goodIn_app (goodIn_of _ (by decide +kernel)) ggL_law_X10_sheet
