/-! the law's words are the tables' words, by their places -/
set_option maxRecDepth 20000 in
theorem wsL_m35 : ∀ w ∈ wsL_law0_r35, w ∈ lw_tbl := in_r wsL_law0_r35 [1357, 625, 626, 627, 628, 629, 630, 631, 632, 633, 1358, 1359, 1360, 1361, 634, 635, 636, 637, 127, 1362, 1363, 1364, 1365, 638] (by decide +kernel)
set_option maxRecDepth 20000 in
theorem wsL_m36 : ∀ w ∈ wsL_law0_r36, w ∈ lw_tbl := in_r wsL_law0_r36 [639, 640, 641, 642, 643, 644, 645, 659, 660, 661, 646, 647, 648, 649, 650, 651, 652, 653, 655, 656, 657, 658, 662, 663] (by decide +kernel)
set_option maxRecDepth 20000 in
theorem wsL_m37 : ∀ w ∈ wsL_law0_r37, w ∈ lw_tbl := in_r wsL_law0_r37 [664, 665, 666, 667, 668, 669, 670, 671, 672, 1366, 1367, 1368, 1369, 1370, 1371, 1373, 45, 1374, 1375, 1377, 46, 1378, 1379, 1381] (by decide +kernel)
set_option maxRecDepth 20000 in
theorem wsL_m38 : ∀ w ∈ wsL_law0_r38, w ∈ lw_tbl := in_r wsL_law0_r38 [47, 1382, 1383, 1385, 48, 1386, 1387, 1388, 1389, 1390, 1392, 49, 1393, 673, 674, 675, 676, 677, 678, 679, 680, 681, 682, 1394] (by decide +kernel)
set_option maxRecDepth 20000 in
theorem wsL_m39 : ∀ w ∈ wsL_law0_r39, w ∈ lw_tbl := in_r wsL_law0_r39 [1395, 1396, 1397, 1398, 1400, 50, 1401, 683, 684, 685, 686, 687, 1402, 1403, 1404, 1405, 688, 689, 690, 691, 1406, 1407, 1408, 1409] (by decide +kernel)
set_option maxRecDepth 20000 in
theorem wsL_m40 : ∀ w ∈ wsL_law0_r40, w ∈ lw_tbl := in_r wsL_law0_r40 [692, 693, 694, 695, 696, 698, 12, 699, 700, 701, 702, 703, 760, 1410, 1411, 1412, 1413, 1414, 1416, 51, 1417, 1418, 1420, 52] (by decide +kernel)
set_option maxRecDepth 20000 in
theorem wsL_m41 : ∀ w ∈ wsL_law0_r41, w ∈ lw_tbl := in_r wsL_law0_r41 [1421, 1422, 1424, 53, 1425, 1426, 1427, 1428, 706, 707, 708, 709, 1429, 1430, 1431, 1432, 710, 711, 712, 713, 714, 715, 716, 717] (by decide +kernel)
set_option maxRecDepth 20000 in
theorem wsL_m42 : ∀ w ∈ wsL_law0_r42, w ∈ lw_tbl := in_r wsL_law0_r42 [1433, 1434, 1435, 1436, 1437, 1439, 54, 1440, 718, 719, 720, 721, 722, 723, 724, 725, 726, 727, 728, 729, 730, 1441, 1442, 1443] (by decide +kernel)
set_option maxRecDepth 20000 in
theorem wsL_m43 : ∀ w ∈ wsL_law0_r43, w ∈ lw_tbl := in_r wsL_law0_r43 [1444, 1445, 1001, 1446, 1448, 55, 1449, 1450, 1451, 1452, 731, 732, 733, 734, 167, 1204, 1205, 1206, 1207, 994, 735, 736, 737, 738] (by decide +kernel)
set_option maxRecDepth 20000 in
theorem wsL_m44 : ∀ w ∈ wsL_law0_r44, w ∈ lw_tbl := in_r wsL_law0_r44 [1208, 1209, 1210, 1211, 739, 740, 741, 742, 743, 744, 745, 746, 1453, 1454, 1455, 1456, 747, 748, 749, 750, 1457, 1458, 1459, 1460] (by decide +kernel)
set_option maxRecDepth 20000 in
theorem wsL_m45 : ∀ w ∈ wsL_law0_r45, w ∈ lw_tbl := in_r wsL_law0_r45 [1461, 751, 752, 753, 754, 755, 756, 757, 758, 759, 1462, 1463, 1464, 1465, 1466, 769, 770, 771, 772, 773, 774, 775, 776, 1467] (by decide +kernel)
set_option maxRecDepth 20000 in
theorem wsL_m46 : ∀ w ∈ wsL_law0_r46, w ∈ lw_tbl := in_r wsL_law0_r46 [1468, 1469, 1470, 1471, 1472, 1473, 947, 948, 56, 949, 950, 951, 952, 953, 954, 955, 826, 74, 827, 75, 781, 1474, 1475, 1476] (by decide +kernel)
set_option maxRecDepth 20000 in
theorem wsL_m47 : ∀ w ∈ wsL_law0_r47, w ∈ lw_tbl := in_r wsL_law0_r47 [1477, 1080, 1081, 1082, 1083, 777, 778, 779, 780, 763, 782, 784, 783, 76, 1478, 1479, 1480, 1481, 785, 786, 787, 788, 789, 790] (by decide +kernel)
set_option maxRecDepth 20000 in
theorem wsL_m48 : ∀ w ∈ wsL_law0_r48, w ∈ lw_tbl := in_r wsL_law0_r48 [791, 821, 789, 792, 790, 793, 794, 795, 796, 797, 798, 799, 800, 160, 801, 802, 803, 804, 805, 806, 807, 808, 1495, 809] (by decide +kernel)
set_option maxRecDepth 20000 in
theorem wsL_m49 : ∀ w ∈ wsL_law0_r49, w ∈ lw_tbl := in_r wsL_law0_r49 [810, 811, 264, 812, 813, 814, 815, 816, 817, 818, 819, 105, 106, 820, 1482, 1483, 1484, 1485, 1486, 1487, 1488, 822, 823, 824] (by decide +kernel)
set_option maxRecDepth 20000 in
theorem wsL_m50 : ∀ w ∈ wsL_law0_r50, w ∈ lw_tbl := in_r wsL_law0_r50 [825, 828, 829, 830, 831, 930, 931, 829, 832, 833, 830, 834, 835, 836, 837, 838, 839, 840, 841, 909, 910, 911, 912, 77] (by decide +kernel)
set_option maxRecDepth 20000 in
theorem wsL_m51 : ∀ w ∈ wsL_law0_r51, w ∈ lw_tbl := in_r wsL_law0_r51 [107, 108, 928, 929, 1489, 1490, 1491, 1492] (by decide +kernel)
set_option maxRecDepth 20000 in
theorem in_wsX100 : ∀ w ∈ wsX100, w ∈ lw_tbl := by decide +kernel
set_option maxRecDepth 20000 in
theorem in_wsX110 : ∀ w ∈ wsX110, w ∈ lw_tbl := by decide +kernel
set_option maxRecDepth 20000 in
theorem in_wsX80 : ∀ w ∈ wsX80, w ∈ lw_tbl := by decide +kernel
set_option maxRecDepth 20000 in
theorem in_wsX20 : ∀ w ∈ wsX20, w ∈ lw_tbl := by decide +kernel
set_option maxRecDepth 20000 in
theorem in_wsX00 : ∀ w ∈ wsX00, w ∈ lw_tbl := by decide +kernel
set_option maxRecDepth 20000 in
theorem in_wsX10 : ∀ w ∈ wsX10, w ∈ lw_tbl := by decide +kernel
set_option maxRecDepth 20000 in
theorem in_wsX30 : ∀ w ∈ wsX30, w ∈ lw_tbl := by decide +kernel
set_option maxRecDepth 20000 in
theorem in_wsX40 : ∀ w ∈ wsX40, w ∈ lw_tbl := by decide +kernel
set_option maxRecDepth 20000 in
theorem in_wsX50 : ∀ w ∈ wsX50, w ∈ lw_tbl := by decide +kernel
set_option maxRecDepth 20000 in
theorem in_wsX60 : ∀ w ∈ wsX60, w ∈ lw_tbl := by decide +kernel
set_option maxRecDepth 20000 in
theorem in_wsX90 : ∀ w ∈ wsX90, w ∈ lw_tbl := by decide +kernel
set_option maxRecDepth 20000 in
theorem in_wsX70 : ∀ w ∈ wsX70, w ∈ lw_tbl := by decide +kernel
set_option maxRecDepth 20000 in
theorem wsL_law_in0 : ∀ w ∈ wsL_law0, w ∈ lw_tbl := in_app (in_app (in_app (in_app (in_app (in_app (in_app (in_app (in_app (in_app (in_app (in_app (in_app (in_app wsL_m1 (in_app wsL_m2 (in_app wsL_m3 (in_app wsL_m4 (in_app wsL_m5 (in_app wsL_m6 (in_app wsL_m7 (in_app wsL_m8 (in_app wsL_m9 (in_app wsL_m10 (in_app wsL_m11 (in_app wsL_m12 (in_app wsL_m13 (in_app wsL_m14 (in_app wsL_m15 (in_app wsL_m16 (in_app wsL_m17 (in_app wsL_m18 (in_app wsL_m19 (in_app wsL_m20 (in_app wsL_m21 (in_app wsL_m22 (in_app wsL_m23 (in_app wsL_m24 (in_app wsL_m25 (in_app wsL_m26 (in_app wsL_m27 (in_app wsL_m28 (in_app wsL_m29 (in_app wsL_m30 (in_app wsL_m31 (in_app wsL_m32 (in_app wsL_m33 (in_app wsL_m34 (in_app wsL_m35 (in_app wsL_m36 (in_app wsL_m37 (in_app wsL_m38 (in_app wsL_m39 (in_app wsL_m40 (in_app wsL_m41 (in_app wsL_m42 (in_app wsL_m43 (in_app wsL_m44 (in_app wsL_m45 (in_app wsL_m46 (in_app wsL_m47 (in_app wsL_m48 (in_app wsL_m49 (in_app wsL_m50 (wsL_m51))))))))))))))))))))))))))))))))))))))))))))))))))) in_wsX100) in_wsX110) in_wsX80) in_wsX20) in_wsX00) in_wsX10) in_wsX30) in_wsX40) in_wsX50) in_wsX60) in_wsX90) in_wsX70) (fun _ h => nomatch h)
theorem wsL_law_in : ∀ w ∈ wsL_law, w ∈ lw_tbl := in_app (in_app (in_app (in_app (in_app wsL_law_in0 wsL_law_x0) wsL_law_x1) wsL_law_x2) wsL_law_x3) wsL_law_x4
