/-! the law's words are the tables' words, by their places -/
set_option maxRecDepth 20000 in
theorem wsL_m18 : ∀ w ∈ wsL_law0_r18, w ∈ lw_tbl := in_r wsL_law0_r18 [1163, 1164, 1166, 28, 1167, 1168, 1170, 29, 1171, 1172, 1174, 30, 1175, 1176, 1178, 31, 1179, 1180, 1182, 32, 1183, 1184, 1186, 33] (by decide +kernel)
set_option maxRecDepth 20000 in
theorem wsL_m19 : ∀ w ∈ wsL_law0_r19, w ∈ lw_tbl := in_r wsL_law0_r19 [1187, 1188, 1190, 34, 1191, 1192, 1194, 35, 1195, 1196, 1198, 36, 1199, 1200, 1202, 37, 1203, 418, 419, 420, 421, 114, 104, 129] (by decide +kernel)
set_option maxRecDepth 20000 in
theorem wsL_m20 : ∀ w ∈ wsL_law0_r20, w ∈ lw_tbl := in_r wsL_law0_r20 [117, 422, 423, 424, 447, 422, 425, 423, 426, 427, 428, 429, 430, 431, 432, 433, 434, 435, 436, 437, 438, 439, 440, 441] (by decide +kernel)
set_option maxRecDepth 20000 in
theorem wsL_m21 : ∀ w ∈ wsL_law0_r21, w ∈ lw_tbl := in_r wsL_law0_r21 [442, 443, 444, 445, 446, 448, 1212, 1213, 1214, 1215, 449, 450, 451, 452, 453, 455, 3, 456, 1216, 1217, 1218, 1219, 1220, 1222] (by decide +kernel)
set_option maxRecDepth 20000 in
theorem wsL_m22 : ∀ w ∈ wsL_law0_r22, w ∈ lw_tbl := in_r wsL_law0_r22 [38, 1223, 457, 458, 459, 460, 461, 463, 4, 464, 1224, 1225, 1226, 1227, 1228, 1230, 39, 1231, 465, 466, 467, 468, 119, 469] (by decide +kernel)
set_option maxRecDepth 20000 in
theorem wsL_m23 : ∀ w ∈ wsL_law0_r23, w ∈ lw_tbl := in_r wsL_law0_r23 [1232, 1233, 1234, 1235, 1236, 470, 471, 472, 473, 125, 1237, 1238, 1239, 1240, 474, 475, 476, 477, 121, 123, 1241, 1242, 1243, 1244] (by decide +kernel)
set_option maxRecDepth 20000 in
theorem wsL_m24 : ∀ w ∈ wsL_law0_r24, w ∈ lw_tbl := in_r wsL_law0_r24 [478, 479, 480, 481, 482, 483, 484, 485, 1245, 1246, 1247, 1248, 486, 487, 488, 489, 1249, 1250, 1251, 1252, 1253, 490, 491, 492] (by decide +kernel)
set_option maxRecDepth 20000 in
theorem wsL_m25 : ∀ w ∈ wsL_law0_r25, w ∈ lw_tbl := in_r wsL_law0_r25 [493, 494, 495, 496, 497, 498, 1254, 1255, 1256, 1257, 499, 500, 501, 502, 504, 503, 1258, 1259, 1260, 1261, 1262, 505, 506, 507] (by decide +kernel)
set_option maxRecDepth 20000 in
theorem wsL_m26 : ∀ w ∈ wsL_law0_r26, w ∈ lw_tbl := in_r wsL_law0_r26 [508, 509, 1263, 1264, 1265, 1266, 510, 511, 512, 513, 514, 1267, 1268, 1269, 1270, 515, 516, 517, 518, 131, 1271, 1272, 1273, 1274] (by decide +kernel)
set_option maxRecDepth 20000 in
theorem wsL_m27 : ∀ w ∈ wsL_law0_r27, w ∈ lw_tbl := in_r wsL_law0_r27 [519, 520, 521, 522, 523, 525, 5, 526, 527, 529, 6, 530, 531, 1275, 1276, 1277, 1278, 1279, 1281, 40, 1282, 1283, 1285, 41] (by decide +kernel)
set_option maxRecDepth 20000 in
theorem wsL_m28 : ∀ w ∈ wsL_law0_r28, w ∈ lw_tbl := in_r wsL_law0_r28 [1286, 532, 533, 534, 535, 536, 537, 538, 539, 1287, 1288, 1289, 1290, 540, 541, 542, 543, 544, 545, 69, 546, 547, 548, 549] (by decide +kernel)
set_option maxRecDepth 20000 in
theorem wsL_m29 : ∀ w ∈ wsL_law0_r29, w ∈ lw_tbl := in_r wsL_law0_r29 [1291, 1292, 1293, 1294, 1295, 1296, 1297, 1298, 1300, 42, 1301, 1302, 1303, 1304, 550, 551, 552, 553, 554, 556, 7, 557, 558, 559] (by decide +kernel)
set_option maxRecDepth 20000 in
theorem wsL_m30 : ∀ w ∈ wsL_law0_r30, w ∈ lw_tbl := in_r wsL_law0_r30 [560, 1305, 1306, 1307, 1308, 1309, 561, 562, 563, 564, 565, 566, 567, 568, 569, 68, 570, 1310, 1311, 1312, 1313, 571, 572, 573] (by decide +kernel)
set_option maxRecDepth 20000 in
theorem wsL_m31 : ∀ w ∈ wsL_law0_r31, w ∈ lw_tbl := in_r wsL_law0_r31 [574, 575, 577, 8, 578, 1314, 1315, 1316, 1317, 1318, 1319, 1320, 579, 580, 581, 582, 583, 584, 585, 586, 587, 589, 9, 590] (by decide +kernel)
set_option maxRecDepth 20000 in
theorem wsL_m32 : ∀ w ∈ wsL_law0_r32, w ∈ lw_tbl := in_r wsL_law0_r32 [1321, 1322, 1323, 1324, 999, 1000, 1325, 1327, 43, 1328, 591, 592, 593, 594, 595, 597, 10, 598, 599, 600, 601, 602, 603, 1329] (by decide +kernel)
set_option maxRecDepth 20000 in
theorem wsL_m33 : ∀ w ∈ wsL_law0_r33, w ∈ lw_tbl := in_r wsL_law0_r33 [1330, 1331, 1332, 604, 605, 606, 607, 1333, 1334, 1335, 1336, 1337, 1339, 44, 1340, 608, 609, 610, 611, 612, 613, 614, 615, 616] (by decide +kernel)
set_option maxRecDepth 20000 in
theorem wsL_m34 : ∀ w ∈ wsL_law0_r34, w ∈ lw_tbl := in_r wsL_law0_r34 [1341, 1342, 1343, 1344, 1345, 1346, 1347, 1348, 1349, 1350, 1351, 1352, 1353, 617, 618, 619, 620, 621, 623, 11, 624, 1354, 1355, 1356] (by decide +kernel)
