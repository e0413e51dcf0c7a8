set_option maxRecDepth 20000 in
theorem ggL_law_X9_luck : GoodIn wsL_law wsX9_luck := goodIn_r _ [931, 23, 932, 43, 156, 157, 2, 158, 618, 242, 243, 22, 244, 74, 637, 638, 639, 933, 934, 935, 42, 936, 117, 118, 937, 938, 939, 940, 119, 941, 250, 251, 252, 73, 942, 943, 944, 945, 946, 947, 645, 646, 647, 75, 486, 487, 488, 489, 72, 948, 949, 950, 951, 952, 953, 954, 955, 956, 1247, 1248, 1249, 1250, 1251, 1252, 1253, 1254, 1255, 1256, 1302, 1303, 1304, 1305, 1320, 1321, 1322] (by decide +kernel) (by decide +kernel)
set_option maxRecDepth 20000 in
theorem gL_law_X9_luck : GoodIn wsL_law (wsV RL 109 RX9 yX9_luck wsX9_luck) := goodIn_app (goodIn_of _ (by decide +kernel)) ggL_law_X9_luck
set_option maxRecDepth 20000 in
theorem ggL_law_X10_luck : GoodIn wsL_law wsX10_luck := goodIn_r _ [960, 961, 962, 963, 964, 178, 179, 5, 180, 629, 630, 631, 632, 124, 652, 653, 654, 965, 966, 967, 968, 969, 560, 561, 562, 563, 125, 580, 581, 582, 583, 591, 592, 593, 880, 881, 882, 883, 568, 569, 570, 571, 572, 573, 574, 575, 576, 577, 578, 579, 598, 599, 600, 601, 602, 603, 604, 605, 588, 589, 590, 970, 971, 972, 973, 974, 975, 1257, 1258, 1259, 1260, 1261, 1262, 1263, 1264, 1265, 1266, 1267, 1268, 1269, 1270, 1271, 1272, 1273, 1274, 1275, 1276, 1277, 1278, 1279, 1280, 1281, 1282, 1283, 1284, 1285, 1286] (by decide +kernel) (by decide +kernel)
set_option maxRecDepth 20000 in
theorem gL_law_X10_luck : GoodIn wsL_law (wsV RL 113 RX10 yX10_luck wsX10_luck) := goodIn_app (goodIn_of _ (by decide +kernel)) ggL_law_X10_luck
set_option maxRecDepth 20000 in
theorem ggL_law_X9_mean : GoodIn wsL_law wsX9_mean := goodIn_r _ [979, 932, 43, 23, 156, 157, 2, 158, 637, 638, 639, 980, 981, 982, 42, 983, 117, 118, 937, 938, 939, 940, 119, 984, 475, 476, 22, 477, 74, 942, 943, 944, 945, 946, 947, 645, 646, 647, 75, 73, 486, 487, 488, 489, 72, 985, 641, 642, 643, 257, 242, 243, 244, 986, 495, 496, 497, 498, 499, 500, 501, 502, 503, 504, 505, 949, 950, 951, 952, 953, 954, 955, 956, 1247, 1248, 1249, 1250, 1251, 1252, 1253, 1254, 1255, 1256, 1320, 1321, 1322, 1302, 1303, 1304, 1305] (by decide +kernel) (by decide +kernel)
set_option maxRecDepth 20000 in
theorem gL_law_X9_mean : GoodIn wsL_law (wsV RL 114 RX9 yX9_mean wsX9_mean) := goodIn_app (goodIn_of _ (by decide +kernel)) ggL_law_X9_mean
set_option maxRecDepth 20000 in
theorem ggL_law_X10_mean : GoodIn wsL_law wsX10_mean := goodIn_r _ [990, 961, 962, 969, 964, 178, 179, 5, 180, 652, 653, 654, 965, 966, 967, 968, 963, 124, 560, 561, 562, 563, 125, 580, 581, 582, 583, 591, 592, 593, 880, 881, 882, 883, 568, 569, 570, 571, 572, 573, 574, 575, 576, 577, 578, 579, 598, 599, 600, 601, 602, 603, 604, 605, 588, 589, 590, 970, 971, 972, 973, 974, 975, 1257, 1258, 1259, 1260, 1261, 1262, 1263, 1264, 1265, 1266, 1267, 1268, 1269, 1270, 1271, 1272, 1273, 1274, 1275, 1276, 1277, 1278, 1279, 1280, 1281, 1282, 1283, 1284, 1285, 1286] (by decide +kernel) (by decide +kernel)
set_option maxRecDepth 20000 in
theorem gL_law_X10_mean : GoodIn wsL_law (wsV RL 118 RX10 yX10_mean wsX10_mean) := goodIn_app (goodIn_of _ (by decide +kernel)) ggL_law_X10_mean
set_option maxRecDepth 20000 in
theorem ggL_law_X9_see : GoodIn wsL_law wsX9_see := goodIn_r _ [994, 27, 723, 724, 2, 725, 156, 157, 158, 688, 689, 690, 995, 996, 997, 26, 998, 82, 999, 1000, 1001, 1002, 79, 80, 81, 1003, 1004, 1005, 1006, 1007, 1247, 1248, 1249, 1250, 1251, 1252, 1253, 1254, 1255, 1256, 1306, 1307, 1308, 1309] (by decide +kernel) (by decide +kernel)
set_option maxRecDepth 20000 in
theorem gL_law_X9_see : GoodIn wsL_law (wsV RL 119 RX9 yX9_see wsX9_see) := goodIn_app (goodIn_of _ (by decide +kernel)) ggL_law_X9_see
set_option maxRecDepth 20000 in
theorem ggL_law_X10_see : GoodIn wsL_law wsX10_see := goodIn_r _ [1011, 124, 676, 677, 5, 678, 679, 178, 179, 180, 672, 673, 674, 675, 1257, 1258, 1259, 1260, 1261, 1262, 1263, 1264, 1265, 1266, 1267, 1268, 1269, 1270, 1271, 1272, 1273, 1274, 1275, 1276, 1277, 1278, 1279, 1280, 1281, 1282, 1283, 1284, 1285, 1286] (by decide +kernel) (by decide +kernel)
set_option maxRecDepth 20000 in
theorem gL_law_X10_see : GoodIn wsL_law (wsV RL 122 RX10 yX10_see wsX10_see) := goodIn_app (goodIn_of _ (by decide +kernel)) ggL_law_X10_see
set_option maxRecDepth 20000 in
theorem ggL_law_X9_forget : GoodIn wsL_law wsX9_forget := goodIn_r _ [1015, 27, 1004, 1005, 1006, 26, 1007, 82, 156, 157, 2, 158, 392, 393, 394, 395, 1247, 1248, 1249, 1250, 1251, 1252, 1253, 1254, 1255, 1256, 1306, 1307, 1308, 1309] (by decide +kernel) (by decide +kernel)
set_option maxRecDepth 20000 in
theorem gL_law_X9_forget : GoodIn wsL_law (wsV RL 123 RX9 yX9_forget wsX9_forget) := goodIn_app (goodIn_of _ (by decide +kernel)) ggL_law_X9_forget
set_option maxRecDepth 20000 in
theorem ggL_law_X10_forget : GoodIn wsL_law wsX10_forget := goodIn_r _ [1019, 124, 178, 179, 5, 180, 680, 681, 682, 683, 1257, 1258, 1259, 1260, 1261, 1262, 1263, 1264, 1265, 1266, 1267, 1268, 1269, 1270, 1271, 1272, 1273, 1274, 1275, 1276, 1277, 1278, 1279, 1280, 1281, 1282, 1283, 1284, 1285, 1286] (by decide +kernel) (by decide +kernel)
set_option maxRecDepth 20000 in
theorem gL_law_X10_forget : GoodIn wsL_law (wsV RL 126 RX10 yX10_forget wsX10_forget) := goodIn_app (goodIn_of _ (by decide +kernel)) ggL_law_X10_forget
set_option maxRecDepth 20000 in
theorem ggL_law_X9_starts : GoodIn wsL_law wsX9_starts := goodIn_r _ [1023, 39, 23, 27, 1024, 1025, 1026, 38, 1027, 101, 786, 385, 386, 22, 387, 72, 388, 389, 390, 391, 73, 74, 75, 847, 336, 337, 338, 1028, 1029, 1030, 26, 1031, 82, 79, 80, 81, 1032, 538, 539, 540, 525, 526, 527, 528, 486, 487, 488, 489, 517, 518, 519, 520, 541, 542, 543, 544, 521, 522, 523, 524, 502, 503, 504, 505, 1247, 1248, 1249, 1250, 1251, 1252, 1253, 1254, 1255, 1256, 1316, 1317, 1318, 1319, 1302, 1303, 1304, 1305, 1306, 1307, 1308, 1309] (by decide +kernel) (by decide +kernel)
set_option maxRecDepth 20000 in
theorem gL_law_X9_starts : GoodIn wsL_law (wsV RL 127 RX9 yX9_starts wsX9_starts) := goodIn_app (goodIn_of _ (by decide +kernel)) ggL_law_X9_starts
set_option maxRecDepth 20000 in
theorem ggL_law_X10_starts : GoodIn wsL_law wsX10_starts := goodIn_r _ [1036, 1037, 1038, 1039, 5, 1040, 125, 560, 561, 562, 563, 124, 1041, 1042, 1043, 1044, 132, 564, 565, 566, 567, 131, 568, 569, 570, 571, 572, 573, 574, 575, 576, 577, 578, 579, 580, 581, 582, 583, 584, 585, 586, 587, 588, 589, 590, 591, 592, 593, 1257, 1258, 1259, 1260, 1261, 1262, 1263, 1264, 1265, 1266, 1267, 1268, 1269, 1270, 1271, 1272, 1273, 1274, 1275, 1276, 1277, 1278, 1279, 1280, 1281, 1282, 1283, 1284, 1285, 1286] (by decide +kernel) (by decide +kernel)
set_option maxRecDepth 20000 in
theorem gL_law_X10_starts : GoodIn wsL_law (wsV RL 130 RX10 yX10_starts wsX10_starts) := goodIn_app (goodIn_of _ (by decide +kernel)) ggL_law_X10_starts
set_option maxRecDepth 20000 in
theorem ggL_law_X9_kinds : GoodIn wsL_law wsX9_kinds := goodIn_r _ [1048, 23, 39, 27, 618, 242, 243, 22, 244, 74, 1049, 1050, 1051, 38, 1052, 101, 786, 385, 386, 387, 72, 388, 389, 390, 391, 73, 75, 909, 361, 362, 363, 364, 365, 366, 157, 2, 158, 910, 368, 369, 370, 874, 357, 358, 359, 1028, 1029, 1030, 26, 1031, 82, 79, 80, 81, 1032, 538, 539, 540, 525, 526, 527, 528, 486, 487, 488, 489, 517, 518, 519, 520, 541, 542, 543, 544, 521, 522, 523, 524, 502, 503, 504, 505, 1247, 1248, 1249, 1250, 1251, 1252, 1253, 1254, 1255, 1256, 1302, 1303, 1304, 1305, 1316, 1317, 1318, 1319, 1306, 1307, 1308, 1309] (by decide +kernel) (by decide +kernel)
set_option maxRecDepth 20000 in
theorem gL_law_X9_kinds : GoodIn wsL_law (wsV RL 131 RX9 yX9_kinds wsX9_kinds) := goodIn_app (goodIn_of _ (by decide +kernel)) ggL_law_X9_kinds
set_option maxRecDepth 20000 in
theorem ggL_law_X10_kinds : GoodIn wsL_law wsX10_kinds := goodIn_r _ [1056, 629, 630, 631, 5, 632, 124, 178, 179, 180, 1037, 1038, 1039, 1040, 125, 560, 561, 562, 563, 1041, 1042, 1043, 1044, 132, 564, 565, 566, 567, 131, 568, 569, 570, 571, 572, 573, 574, 575, 576, 577, 578, 579, 580, 581, 582, 583, 584, 585, 586, 587, 588, 589, 590, 591, 592, 593, 1257, 1258, 1259, 1260, 1261, 1262, 1263, 1264, 1265, 1266, 1267, 1268, 1269, 1270, 1271, 1272, 1273, 1274, 1275, 1276, 1277, 1278, 1279, 1280, 1281, 1282, 1283, 1284, 1285, 1286] (by decide +kernel) (by decide +kernel)
set_option maxRecDepth 20000 in
theorem gL_law_X10_kinds : GoodIn wsL_law (wsV RL 134 RX10 yX10_kinds wsX10_kinds) := goodIn_app (goodIn_of _ (by decide +kernel)) ggL_law_X10_kinds
