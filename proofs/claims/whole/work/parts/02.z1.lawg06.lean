set_option maxRecDepth 20000 in
theorem ggL_law_X9_lay : GoodIn wsL_law wsX9_lay := goodIn_r _ [1168, 35, 1146, 1147, 34, 1148, 157, 2, 158, 1169, 1170, 1171, 1172, 95, 1156, 1173, 1174, 1175, 1176, 1177, 1178, 1179, 1180, 96, 1181, 1182, 1183, 1184, 1185, 1186, 1187, 1188, 1189, 94, 1190, 1191, 1192, 1247, 1248, 1249, 1250, 1251, 1252, 1253, 1254, 1255, 1256, 1313, 1314, 1315] (by decide +kernel) (by decide +kernel)
set_option maxRecDepth 20000 in
theorem gL_law_X9_lay : GoodIn wsL_law (wsV RL 159 RX9 yX9_lay wsX9_lay) := goodIn_app (goodIn_of _ (by decide +kernel)) ggL_law_X9_lay
set_option maxRecDepth 20000 in
theorem ggL_law_X10_lay : GoodIn wsL_law wsX10_lay := goodIn_r _ [1196, 135, 136, 137, 1161, 1162, 5, 1163, 670, 1164, 178, 179, 180, 1257, 1258, 1259, 1260, 1261, 1262, 1263, 1264, 1265, 1266, 1267, 1268, 1269, 1270, 1271, 1272, 1273, 1274, 1275, 1276, 1277, 1278, 1279, 1280, 1281, 1282, 1283, 1284, 1285, 1286] (by decide +kernel) (by decide +kernel)
set_option maxRecDepth 20000 in
theorem gL_law_X10_lay : GoodIn wsL_law (wsV RL 162 RX10 yX10_lay wsX10_lay) := goodIn_app (goodIn_of _ (by decide +kernel)) ggL_law_X10_lay
set_option maxRecDepth 20000 in
theorem ggL_law_X9_read : GoodIn wsL_law wsX9_read := goodIn_r _ [1200, 39, 23, 35, 1201, 1146, 1147, 34, 1148, 157, 2, 158, 1149, 1150, 1151, 156, 1202, 1203, 1204, 38, 1205, 101, 786, 385, 386, 22, 387, 72, 388, 389, 390, 391, 73, 74, 75, 1206, 1207, 1208, 1209, 1210, 1174, 1175, 1176, 1177, 1178, 1179, 1180, 96, 1156, 1181, 1170, 1171, 1172, 95, 1182, 1183, 1184, 1185, 1211, 1212, 1213, 1214, 1215, 1216, 1217, 1218, 94, 709, 710, 711, 712, 713, 660, 661, 363, 370, 364, 365, 366, 355, 348, 349, 350, 714, 352, 353, 354, 356, 357, 358, 359, 384, 1247, 1248, 1249, 1250, 1251, 1252, 1253, 1254, 1255, 1256, 1316, 1317, 1318, 1319, 1302, 1303, 1304, 1305, 1313, 1314, 1315] (by decide +kernel) (by decide +kernel)
set_option maxRecDepth 20000 in
theorem gL_law_X9_read : GoodIn wsL_law (wsV RL 163 RX9 yX9_read wsX9_read) := goodIn_app (goodIn_of _ (by decide +kernel)) ggL_law_X9_read
set_option maxRecDepth 20000 in
theorem ggL_law_X10_read : GoodIn wsL_law wsX10_read := goodIn_r _ [1222, 1223, 138, 124, 135, 136, 137, 1224, 1161, 1162, 5, 1163, 670, 1164, 178, 179, 180, 1225, 716, 717, 718, 667, 668, 669, 671, 628, 672, 673, 674, 675, 676, 677, 678, 679, 1257, 1258, 1259, 1260, 1261, 1262, 1263, 1264, 1265, 1266, 1267, 1268, 1269, 1270, 1271, 1272, 1273, 1274, 1275, 1276, 1277, 1278, 1279, 1280, 1281, 1282, 1283, 1284, 1285, 1286] (by decide +kernel) (by decide +kernel)
set_option maxRecDepth 20000 in
theorem gL_law_X10_read : GoodIn wsL_law (wsV RL 167 RX10 yX10_read wsX10_read) := goodIn_app (goodIn_of _ (by decide +kernel)) ggL_law_X10_read
set_option maxRecDepth 20000 in
theorem ggL_law_X9_torn : GoodIn wsL_law wsX9_torn := goodIn_r _ [1229, 1201, 1247, 1248, 1249, 1250, 1251, 1252, 1253, 1254, 1255, 1256] (by decide +kernel) (by decide +kernel)
set_option maxRecDepth 20000 in
theorem gL_law_X9_torn : GoodIn wsL_law (wsV RL 168 RX9 yX9_torn wsX9_torn) := goodIn_app (goodIn_of _ (by decide +kernel)) ggL_law_X9_torn
set_option maxRecDepth 20000 in
theorem ggL_law_X10_torn : GoodIn wsL_law wsX10_torn := goodIn_r _ [1233, 1224, 1257, 1258, 1259, 1260, 1261, 1262, 1263, 1264, 1265, 1266, 1267, 1268, 1269, 1270, 1271, 1272, 1273, 1274, 1275, 1276, 1277, 1278, 1279, 1280, 1281, 1282, 1283, 1284, 1285, 1286] (by decide +kernel) (by decide +kernel)
set_option maxRecDepth 20000 in
theorem gL_law_X10_torn : GoodIn wsL_law (wsV RL 171 RX10 yX10_torn wsX10_torn) := goodIn_app (goodIn_of _ (by decide +kernel)) ggL_law_X10_torn
set_option maxRecDepth 20000 in
theorem ggL_law_X9_count : GoodIn wsL_law wsX9_count := goodIn_r _ [1237, 27, 15, 35, 23, 1004, 1005, 1006, 26, 1007, 82, 1238, 1239, 1240, 2, 1241, 31, 1108, 1109, 1110, 30, 1111, 90, 168, 169, 170, 14, 171, 49, 1242, 1178, 1179, 34, 1180, 96, 1156, 1147, 1148, 157, 158, 482, 483, 484, 22, 485, 74, 486, 487, 488, 489, 72, 1247, 1248, 1249, 1250, 1251, 1252, 1253, 1254, 1255, 1256, 1306, 1307, 1308, 1309, 1310, 1311, 1312, 1287, 1288, 1313, 1314, 1315, 1302, 1303, 1304, 1305] (by decide +kernel) (by decide +kernel)
set_option maxRecDepth 20000 in
theorem gL_law_X9_count : GoodIn wsL_law (wsV RL 172 RX9 yX9_count wsX9_count) := goodIn_app (goodIn_of _ (by decide +kernel)) ggL_law_X9_count
set_option maxRecDepth 20000 in
theorem ggL_law_X10_count : GoodIn wsL_law wsX10_count := goodIn_r _ [1246, 124, 127, 177, 135, 136, 560, 561, 562, 5, 563, 125, 591, 592, 593, 594, 595, 596, 597, 580, 581, 582, 583, 1257, 1258, 1259, 1260, 1261, 1262, 1263, 1264, 1265, 1266, 1267, 1268, 1269, 1270, 1271, 1272, 1273, 1274, 1275, 1276, 1277, 1278, 1279, 1280, 1281, 1282, 1283, 1284, 1285, 1286] (by decide +kernel) (by decide +kernel)
set_option maxRecDepth 20000 in
theorem gL_law_X10_count : GoodIn wsL_law (wsV RL 175 RX10 yX10_count wsX10_count) := goodIn_app (goodIn_of _ (by decide +kernel)) ggL_law_X10_count
