set_option maxRecDepth 20000 in
theorem ggL_law_X9_clock : GoodIn wsL_law wsX9_clock := goodIn_r _ [722, 23, 723, 724, 2, 725, 156, 157, 158, 688, 689, 690, 637, 638, 639, 726, 538, 539, 22, 540, 525, 526, 527, 528, 74, 486, 487, 488, 489, 72, 517, 518, 519, 520, 541, 542, 543, 544, 521, 522, 523, 524, 75, 73, 502, 503, 504, 505, 727, 1247, 1248, 1249, 1250, 1251, 1252, 1253, 1254, 1255, 1256, 1302, 1303, 1304, 1305] (by decide +kernel) (by decide +kernel)
set_option maxRecDepth 20000 in
theorem gL_law_X9_clock : GoodIn wsL_law (wsV RL 61 RX9 yX9_clock wsX9_clock) := goodIn_app (goodIn_of _ (by decide +kernel)) ggL_law_X9_clock
set_option maxRecDepth 20000 in
theorem ggL_law_X10_clock : GoodIn wsL_law wsX10_clock := goodIn_r _ [731, 132, 131, 676, 677, 5, 678, 679, 178, 179, 180, 672, 673, 674, 675, 652, 653, 654, 556, 557, 558, 559, 560, 561, 562, 563, 125, 124, 564, 565, 566, 567, 568, 569, 570, 571, 572, 573, 574, 575, 576, 577, 578, 579, 580, 581, 582, 583, 584, 585, 586, 587, 588, 589, 590, 1257, 1258, 1259, 1260, 1261, 1262, 1263, 1264, 1265, 1266, 1267, 1268, 1269, 1270, 1271, 1272, 1273, 1274, 1275, 1276, 1277, 1278, 1279, 1280, 1281, 1282, 1283, 1284, 1285, 1286] (by decide +kernel) (by decide +kernel)
set_option maxRecDepth 20000 in
theorem gL_law_X10_clock : GoodIn wsL_law (wsV RL 64 RX10 yX10_clock wsX10_clock) := goodIn_app (goodIn_of _ (by decide +kernel)) ggL_law_X10_clock
set_option maxRecDepth 20000 in
theorem ggL_law_X9_room : GoodIn wsL_law wsX9_room := goodIn_r _ [735, 23, 723, 724, 2, 725, 156, 157, 158, 637, 638, 639, 736, 737, 738, 22, 739, 74, 486, 487, 488, 489, 72, 510, 511, 512, 513, 498, 499, 500, 501, 514, 515, 516, 517, 518, 519, 520, 521, 522, 523, 524, 75, 73, 525, 526, 527, 528, 740, 534, 535, 536, 537, 538, 539, 540, 541, 542, 543, 544, 502, 503, 504, 505, 1247, 1248, 1249, 1250, 1251, 1252, 1253, 1254, 1255, 1256, 1302, 1303, 1304, 1305] (by decide +kernel) (by decide +kernel)
set_option maxRecDepth 20000 in
theorem gL_law_X9_room : GoodIn wsL_law (wsV RL 65 RX9 yX9_room wsX9_room) := goodIn_app (goodIn_of _ (by decide +kernel)) ggL_law_X9_room
set_option maxRecDepth 20000 in
theorem ggL_law_X10_room : GoodIn wsL_law wsX10_room := goodIn_r _ [744, 676, 677, 5, 678, 679, 178, 179, 180, 652, 653, 654, 556, 557, 558, 559, 560, 561, 562, 563, 125, 124, 564, 565, 566, 567, 131, 132, 568, 569, 570, 571, 572, 573, 574, 575, 576, 577, 578, 579, 580, 581, 582, 583, 584, 585, 586, 587, 588, 589, 590, 610, 611, 612, 613, 591, 592, 593, 745, 746, 747, 748, 1257, 1258, 1259, 1260, 1261, 1262, 1263, 1264, 1265, 1266, 1267, 1268, 1269, 1270, 1271, 1272, 1273, 1274, 1275, 1276, 1277, 1278, 1279, 1280, 1281, 1282, 1283, 1284, 1285, 1286] (by decide +kernel) (by decide +kernel)
set_option maxRecDepth 20000 in
theorem gL_law_X10_room : GoodIn wsL_law (wsV RL 68 RX10 yX10_room wsX10_room) := goodIn_app (goodIn_of _ (by decide +kernel)) ggL_law_X10_room
set_option maxRecDepth 20000 in
theorem ggL_law_X9_out : GoodIn wsL_law wsX9_out := goodIn_r _ [752, 23, 618, 242, 243, 22, 244, 74, 753, 754, 755, 756, 514, 515, 500, 516, 498, 499, 501, 486, 487, 488, 489, 72, 517, 518, 519, 520, 525, 526, 527, 528, 1247, 1248, 1249, 1250, 1251, 1252, 1253, 1254, 1255, 1256, 1302, 1303, 1304, 1305] (by decide +kernel) (by decide +kernel)
set_option maxRecDepth 20000 in
theorem gL_law_X9_out : GoodIn wsL_law (wsV RL 69 RX9 yX9_out wsX9_out) := goodIn_app (goodIn_of _ (by decide +kernel)) ggL_law_X9_out
set_option maxRecDepth 20000 in
theorem ggL_law_X10_out : GoodIn wsL_law wsX10_out := goodIn_r _ [760, 131, 629, 630, 631, 5, 632, 124, 178, 179, 180, 556, 557, 558, 559, 560, 561, 562, 563, 125, 564, 565, 566, 567, 132, 568, 569, 570, 571, 572, 573, 574, 575, 576, 577, 578, 579, 580, 581, 582, 583, 584, 585, 586, 587, 588, 589, 590, 591, 592, 593, 1257, 1258, 1259, 1260, 1261, 1262, 1263, 1264, 1265, 1266, 1267, 1268, 1269, 1270, 1271, 1272, 1273, 1274, 1275, 1276, 1277, 1278, 1279, 1280, 1281, 1282, 1283, 1284, 1285, 1286] (by decide +kernel) (by decide +kernel)
set_option maxRecDepth 20000 in
theorem gL_law_X10_out : GoodIn wsL_law (wsV RL 72 RX10 yX10_out wsX10_out) := goodIn_app (goodIn_of _ (by decide +kernel)) ggL_law_X10_out
set_option maxRecDepth 20000 in
theorem ggL_law_X9_meet : GoodIn wsL_law wsX9_meet := goodIn_r _ [764, 23, 723, 724, 2, 725, 156, 157, 158, 727, 526, 527, 22, 528, 74, 486, 487, 488, 489, 72, 517, 518, 519, 520, 726, 538, 539, 540, 525, 541, 542, 543, 544, 521, 522, 523, 524, 75, 73, 502, 503, 504, 505, 1247, 1248, 1249, 1250, 1251, 1252, 1253, 1254, 1255, 1256, 1302, 1303, 1304, 1305] (by decide +kernel) (by decide +kernel)
set_option maxRecDepth 20000 in
theorem gL_law_X9_meet : GoodIn wsL_law (wsV RL 73 RX9 yX9_meet wsX9_meet) := goodIn_app (goodIn_of _ (by decide +kernel)) ggL_law_X9_meet
set_option maxRecDepth 20000 in
theorem ggL_law_X10_meet : GoodIn wsL_law wsX10_meet := goodIn_r _ [768, 131, 132, 676, 677, 5, 678, 679, 178, 179, 180, 556, 557, 558, 559, 560, 561, 562, 563, 125, 124, 564, 565, 566, 567, 568, 569, 570, 571, 572, 573, 574, 575, 576, 577, 578, 579, 580, 581, 582, 583, 584, 585, 586, 587, 588, 589, 590, 1257, 1258, 1259, 1260, 1261, 1262, 1263, 1264, 1265, 1266, 1267, 1268, 1269, 1270, 1271, 1272, 1273, 1274, 1275, 1276, 1277, 1278, 1279, 1280, 1281, 1282, 1283, 1284, 1285, 1286] (by decide +kernel) (by decide +kernel)
set_option maxRecDepth 20000 in
theorem gL_law_X10_meet : GoodIn wsL_law (wsV RL 76 RX10 yX10_meet wsX10_meet) := goodIn_app (goodIn_of _ (by decide +kernel)) ggL_law_X10_meet
set_option maxRecDepth 20000 in
theorem ggL_law_X9_first : GoodIn wsL_law wsX9_first := goodIn_r _ [772, 23, 723, 724, 2, 725, 156, 157, 158, 688, 689, 690, 726, 538, 539, 22, 540, 525, 526, 527, 528, 74, 486, 487, 488, 489, 72, 517, 518, 519, 520, 541, 542, 543, 544, 521, 522, 523, 524, 75, 73, 502, 503, 504, 505, 1247, 1248, 1249, 1250, 1251, 1252, 1253, 1254, 1255, 1256, 1302, 1303, 1304, 1305] (by decide +kernel) (by decide +kernel)
set_option maxRecDepth 20000 in
theorem gL_law_X9_first : GoodIn wsL_law (wsV RL 77 RX9 yX9_first wsX9_first) := goodIn_app (goodIn_of _ (by decide +kernel)) ggL_law_X9_first
set_option maxRecDepth 20000 in
theorem ggL_law_X10_first : GoodIn wsL_law wsX10_first := goodIn_r _ [776, 132, 676, 677, 5, 678, 679, 178, 179, 180, 672, 673, 674, 675, 556, 557, 558, 559, 560, 561, 562, 563, 125, 124, 564, 565, 566, 567, 131, 568, 569, 570, 571, 572, 573, 574, 575, 576, 577, 578, 579, 580, 581, 582, 583, 584, 585, 586, 587, 588, 589, 590, 1257, 1258, 1259, 1260, 1261, 1262, 1263, 1264, 1265, 1266, 1267, 1268, 1269, 1270, 1271, 1272, 1273, 1274, 1275, 1276, 1277, 1278, 1279, 1280, 1281, 1282, 1283, 1284, 1285, 1286] (by decide +kernel) (by decide +kernel)
set_option maxRecDepth 20000 in
theorem gL_law_X10_first : GoodIn wsL_law (wsV RL 80 RX10 yX10_first wsX10_first) := goodIn_app (goodIn_of _ (by decide +kernel)) ggL_law_X10_first
set_option maxRecDepth 20000 in
theorem ggL_law_X9_best : GoodIn wsL_law wsX9_best := goodIn_r _ [780, 23, 39, 618, 242, 243, 22, 244, 74, 781, 782, 783, 38, 784, 101, 105, 785, 786, 385, 386, 387, 72, 388, 389, 390, 391, 73, 75, 787, 788, 789, 790, 791, 792, 793, 104, 794, 111, 112, 795, 491, 492, 493, 486, 487, 488, 489, 494, 495, 496, 497, 498, 499, 500, 501, 502, 503, 504, 505, 796, 797, 798, 799, 800, 801, 802, 803, 106, 804, 475, 476, 477, 805, 641, 642, 643, 257, 806, 807, 808, 809, 253, 254, 255, 256, 810, 811, 812, 813, 814, 815, 816, 817, 818, 819, 820, 821, 822, 823, 824, 825, 157, 2, 158, 1247, 1248, 1249, 1250, 1251, 1252, 1253, 1254, 1255, 1256, 1302, 1303, 1304, 1305, 1316, 1317, 1318, 1319, 1323, 1324] (by decide +kernel) (by decide +kernel)
set_option maxRecDepth 20000 in
theorem gL_law_X9_best : GoodIn wsL_law (wsV RL 81 RX9 yX9_best wsX9_best) := goodIn_app (goodIn_of _ (by decide +kernel)) ggL_law_X9_best
set_option maxRecDepth 20000 in
theorem ggL_law_X10_best : GoodIn wsL_law wsX10_best := goodIn_r _ [829, 133, 629, 630, 631, 5, 632, 124, 178, 179, 180, 830, 831, 832, 833, 834, 125, 560, 561, 562, 563, 835, 836, 837, 838, 598, 599, 600, 601, 602, 603, 604, 605, 568, 569, 570, 571, 572, 573, 574, 575, 576, 577, 578, 579, 580, 581, 582, 583, 588, 589, 590, 1257, 1258, 1259, 1260, 1261, 1262, 1263, 1264, 1265, 1266, 1267, 1268, 1269, 1270, 1271, 1272, 1273, 1274, 1275, 1276, 1277, 1278, 1279, 1280, 1281, 1282, 1283, 1284, 1285, 1286] (by decide +kernel) (by decide +kernel)
set_option maxRecDepth 20000 in
theorem gL_law_X10_best : GoodIn wsL_law (wsV RL 84 RX10 yX10_best wsX10_best) := goodIn_app (goodIn_of _ (by decide +kernel)) ggL_law_X10_best
