set_option maxRecDepth 20000 in
theorem ggL_law_X9_begin : GoodIn wsL_law wsX9_begin := goodIn_r _ [842, 39, 23, 637, 638, 2, 639, 843, 844, 845, 38, 846, 101, 105, 785, 786, 385, 386, 22, 387, 72, 388, 389, 390, 391, 73, 74, 75, 791, 792, 793, 104, 794, 111, 112, 847, 336, 337, 338, 795, 491, 492, 493, 486, 487, 488, 489, 494, 495, 496, 497, 498, 499, 500, 501, 502, 503, 504, 505, 796, 797, 798, 799, 810, 811, 812, 813, 814, 815, 816, 817, 818, 819, 820, 821, 1247, 1248, 1249, 1250, 1251, 1252, 1253, 1254, 1255, 1256, 1316, 1317, 1318, 1319, 1302, 1303, 1304, 1305, 1323, 1324] (by decide +kernel) (by decide +kernel)
set_option maxRecDepth 20000 in
theorem gL_law_X9_begin : GoodIn wsL_law (wsV RL 85 RX9 yX9_begin wsX9_begin) := goodIn_app (goodIn_of _ (by decide +kernel)) ggL_law_X9_begin
set_option maxRecDepth 20000 in
theorem ggL_law_X10_begin : GoodIn wsL_law wsX10_begin := goodIn_r _ [851, 834, 125, 652, 653, 5, 654, 178, 179, 180, 560, 561, 562, 563, 124, 598, 599, 600, 601, 602, 603, 604, 605, 568, 569, 570, 571, 572, 573, 574, 575, 576, 577, 578, 579, 580, 581, 582, 583, 588, 589, 590, 1257, 1258, 1259, 1260, 1261, 1262, 1263, 1264, 1265, 1266, 1267, 1268, 1269, 1270, 1271, 1272, 1273, 1274, 1275, 1276, 1277, 1278, 1279, 1280, 1281, 1282, 1283, 1284, 1285, 1286] (by decide +kernel) (by decide +kernel)
set_option maxRecDepth 20000 in
theorem gL_law_X10_begin : GoodIn wsL_law (wsV RL 88 RX10 yX10_begin wsX10_begin) := goodIn_app (goodIn_of _ (by decide +kernel)) ggL_law_X10_begin
set_option maxRecDepth 20000 in
theorem ggL_law_X9_swap : GoodIn wsL_law wsX9_swap := goodIn_r _ [855, 39, 23, 637, 638, 2, 639, 856, 857, 858, 38, 859, 101, 105, 786, 385, 386, 22, 387, 72, 388, 389, 390, 391, 73, 74, 75, 795, 491, 492, 493, 486, 487, 488, 489, 494, 495, 496, 497, 498, 499, 500, 501, 502, 503, 504, 505, 791, 792, 793, 104, 794, 111, 112, 804, 475, 476, 477, 860, 254, 255, 256, 257, 242, 243, 244, 796, 797, 798, 799, 810, 811, 812, 813, 814, 815, 816, 817, 818, 819, 820, 821, 1247, 1248, 1249, 1250, 1251, 1252, 1253, 1254, 1255, 1256, 1316, 1317, 1318, 1319, 1302, 1303, 1304, 1305, 1323, 1324] (by decide +kernel) (by decide +kernel)
set_option maxRecDepth 20000 in
theorem gL_law_X9_swap : GoodIn wsL_law (wsV RL 89 RX9 yX9_swap wsX9_swap) := goodIn_app (goodIn_of _ (by decide +kernel)) ggL_law_X9_swap
set_option maxRecDepth 20000 in
theorem ggL_law_X10_swap : GoodIn wsL_law wsX10_swap := goodIn_r _ [864, 124, 125, 652, 653, 5, 654, 178, 179, 180, 560, 561, 562, 563, 598, 599, 600, 601, 602, 603, 604, 605, 568, 569, 570, 571, 572, 573, 574, 575, 576, 577, 578, 579, 580, 581, 582, 583, 588, 589, 590, 1257, 1258, 1259, 1260, 1261, 1262, 1263, 1264, 1265, 1266, 1267, 1268, 1269, 1270, 1271, 1272, 1273, 1274, 1275, 1276, 1277, 1278, 1279, 1280, 1281, 1282, 1283, 1284, 1285, 1286] (by decide +kernel) (by decide +kernel)
set_option maxRecDepth 20000 in
theorem gL_law_X10_swap : GoodIn wsL_law (wsV RL 92 RX10 yX10_swap wsX10_swap) := goodIn_app (goodIn_of _ (by decide +kernel)) ggL_law_X10_swap
set_option maxRecDepth 20000 in
theorem ggL_law_X9_longer : GoodIn wsL_law wsX9_longer := goodIn_r _ [868, 23, 39, 618, 242, 243, 22, 244, 74, 869, 870, 871, 38, 872, 101, 786, 385, 386, 387, 72, 388, 389, 390, 391, 73, 75, 873, 487, 488, 489, 874, 357, 358, 359, 875, 522, 523, 524, 486, 1247, 1248, 1249, 1250, 1251, 1252, 1253, 1254, 1255, 1256, 1302, 1303, 1304, 1305, 1316, 1317, 1318, 1319] (by decide +kernel) (by decide +kernel)
set_option maxRecDepth 20000 in
theorem gL_law_X9_longer : GoodIn wsL_law (wsV RL 93 RX9 yX9_longer wsX9_longer) := goodIn_app (goodIn_of _ (by decide +kernel)) ggL_law_X9_longer
set_option maxRecDepth 20000 in
theorem ggL_law_X10_longer : GoodIn wsL_law wsX10_longer := goodIn_r _ [879, 124, 629, 630, 631, 5, 632, 178, 179, 180, 560, 561, 562, 563, 125, 880, 881, 882, 883, 568, 569, 570, 571, 572, 573, 574, 575, 576, 577, 578, 579, 580, 581, 582, 583, 1257, 1258, 1259, 1260, 1261, 1262, 1263, 1264, 1265, 1266, 1267, 1268, 1269, 1270, 1271, 1272, 1273, 1274, 1275, 1276, 1277, 1278, 1279, 1280, 1281, 1282, 1283, 1284, 1285, 1286] (by decide +kernel) (by decide +kernel)
set_option maxRecDepth 20000 in
theorem gL_law_X10_longer : GoodIn wsL_law (wsV RL 96 RX10 yX10_longer wsX10_longer) := goodIn_app (goodIn_of _ (by decide +kernel)) ggL_law_X10_longer
set_option maxRecDepth 20000 in
theorem ggL_law_X9_when : GoodIn wsL_law wsX9_when := goodIn_r _ [887, 23, 39, 618, 242, 243, 22, 244, 74, 688, 689, 2, 690, 156, 157, 158, 888, 889, 890, 38, 891, 101, 786, 385, 386, 387, 72, 388, 389, 390, 391, 73, 75, 873, 487, 488, 489, 874, 357, 358, 359, 892, 538, 539, 540, 525, 526, 527, 528, 486, 517, 518, 519, 520, 541, 542, 543, 544, 521, 522, 523, 524, 502, 503, 504, 505, 1247, 1248, 1249, 1250, 1251, 1252, 1253, 1254, 1255, 1256, 1302, 1303, 1304, 1305, 1316, 1317, 1318, 1319] (by decide +kernel) (by decide +kernel)
set_option maxRecDepth 20000 in
theorem gL_law_X9_when : GoodIn wsL_law (wsV RL 97 RX9 yX9_when wsX9_when) := goodIn_app (goodIn_of _ (by decide +kernel)) ggL_law_X9_when
set_option maxRecDepth 20000 in
theorem ggL_law_X10_when : GoodIn wsL_law wsX10_when := goodIn_r _ [896, 132, 629, 630, 631, 5, 632, 124, 178, 179, 180, 672, 673, 674, 675, 560, 561, 562, 563, 125, 880, 881, 882, 883, 564, 565, 566, 567, 131, 568, 569, 570, 571, 572, 573, 574, 575, 576, 577, 578, 579, 580, 581, 582, 583, 584, 585, 586, 587, 588, 589, 590, 1257, 1258, 1259, 1260, 1261, 1262, 1263, 1264, 1265, 1266, 1267, 1268, 1269, 1270, 1271, 1272, 1273, 1274, 1275, 1276, 1277, 1278, 1279, 1280, 1281, 1282, 1283, 1284, 1285, 1286] (by decide +kernel) (by decide +kernel)
set_option maxRecDepth 20000 in
theorem gL_law_X10_when : GoodIn wsL_law (wsV RL 100 RX10 yX10_when wsX10_when) := goodIn_app (goodIn_of _ (by decide +kernel)) ggL_law_X10_when
set_option maxRecDepth 20000 in
theorem ggL_law_X9_wake : GoodIn wsL_law wsX9_wake := goodIn_r _ [900, 901, 902, 903, 2, 904, 23, 39, 618, 242, 243, 22, 244, 74, 637, 638, 639, 905, 906, 907, 38, 908, 101, 105, 785, 786, 385, 386, 387, 72, 388, 389, 390, 391, 73, 75, 791, 792, 793, 104, 794, 111, 112, 909, 361, 362, 363, 364, 365, 366, 157, 158, 910, 368, 369, 370, 874, 357, 358, 359, 911, 507, 508, 509, 510, 511, 512, 513, 498, 499, 500, 501, 514, 515, 516, 486, 487, 488, 489, 517, 518, 519, 520, 521, 522, 523, 524, 525, 526, 527, 528, 796, 797, 798, 799, 810, 811, 812, 813, 814, 815, 816, 817, 818, 819, 820, 821, 1247, 1248, 1249, 1250, 1251, 1252, 1253, 1254, 1255, 1256, 1302, 1303, 1304, 1305, 1316, 1317, 1318, 1319, 1323, 1324] (by decide +kernel) (by decide +kernel)
set_option maxRecDepth 20000 in
theorem gL_law_X9_wake : GoodIn wsL_law (wsV RL 101 RX9 yX9_wake wsX9_wake) := goodIn_app (goodIn_of _ (by decide +kernel)) ggL_law_X9_wake
set_option maxRecDepth 20000 in
theorem ggL_law_X10_wake : GoodIn wsL_law wsX10_wake := goodIn_r _ [915, 629, 630, 631, 5, 632, 124, 178, 179, 180, 652, 653, 654, 916, 917, 918, 919, 834, 560, 561, 562, 563, 125, 880, 881, 882, 883, 564, 565, 566, 567, 131, 132, 568, 569, 570, 571, 572, 573, 574, 575, 576, 577, 578, 579, 580, 581, 582, 583, 584, 585, 586, 587, 588, 589, 590, 606, 607, 608, 609, 610, 611, 612, 613, 591, 592, 593, 1257, 1258, 1259, 1260, 1261, 1262, 1263, 1264, 1265, 1266, 1267, 1268, 1269, 1270, 1271, 1272, 1273, 1274, 1275, 1276, 1277, 1278, 1279, 1280, 1281, 1282, 1283, 1284, 1285, 1286] (by decide +kernel) (by decide +kernel)
set_option maxRecDepth 20000 in
theorem gL_law_X10_wake : GoodIn wsL_law (wsV RL 104 RX10 yX10_wake wsX10_wake) := goodIn_app (goodIn_of _ (by decide +kernel)) ggL_law_X10_wake
set_option maxRecDepth 20000 in
theorem ggL_law_X9_where : GoodIn wsL_law wsX9_where := goodIn_r _ [923, 901, 902, 903, 2, 904, 23, 39, 618, 242, 243, 22, 244, 74, 637, 638, 639, 905, 906, 907, 38, 908, 101, 105, 785, 786, 385, 386, 387, 72, 388, 389, 390, 391, 73, 75, 791, 792, 793, 104, 794, 111, 112, 909, 361, 362, 363, 364, 365, 366, 157, 158, 910, 368, 369, 370, 874, 357, 358, 359, 911, 507, 508, 509, 510, 511, 512, 513, 498, 499, 500, 501, 514, 515, 516, 486, 487, 488, 489, 517, 518, 519, 520, 521, 522, 523, 524, 525, 526, 527, 528, 796, 797, 798, 799, 810, 811, 812, 813, 814, 815, 816, 817, 818, 819, 820, 821, 1247, 1248, 1249, 1250, 1251, 1252, 1253, 1254, 1255, 1256, 1302, 1303, 1304, 1305, 1316, 1317, 1318, 1319, 1323, 1324] (by decide +kernel) (by decide +kernel)
set_option maxRecDepth 20000 in
theorem gL_law_X9_where : GoodIn wsL_law (wsV RL 105 RX9 yX9_where wsX9_where) := goodIn_app (goodIn_of _ (by decide +kernel)) ggL_law_X9_where
set_option maxRecDepth 20000 in
theorem ggL_law_X10_where : GoodIn wsL_law wsX10_where := goodIn_r _ [927, 629, 630, 631, 5, 632, 124, 178, 179, 180, 652, 653, 654, 916, 917, 918, 919, 834, 560, 561, 562, 563, 125, 880, 881, 882, 883, 564, 565, 566, 567, 131, 132, 568, 569, 570, 571, 572, 573, 574, 575, 576, 577, 578, 579, 580, 581, 582, 583, 584, 585, 586, 587, 588, 589, 590, 606, 607, 608, 609, 610, 611, 612, 613, 591, 592, 593, 1257, 1258, 1259, 1260, 1261, 1262, 1263, 1264, 1265, 1266, 1267, 1268, 1269, 1270, 1271, 1272, 1273, 1274, 1275, 1276, 1277, 1278, 1279, 1280, 1281, 1282, 1283, 1284, 1285, 1286] (by decide +kernel) (by decide +kernel)
set_option maxRecDepth 20000 in
theorem gL_law_X10_where : GoodIn wsL_law (wsV RL 108 RX10 yX10_where wsX10_where) := goodIn_app (goodIn_of _ (by decide +kernel)) ggL_law_X10_where
