theorem in_r {big : List Cond} (ws : List Cond) (ps : List Nat) (hp : ws = ps.filterMap (fun i => big[i]?)) : ∀ w ∈ ws, w ∈ big := by
  intro w hw
  rw [hp] at hw
  obtain ⟨i, -, hi⟩ := List.mem_filterMap.mp hw
  exact List.mem_of_getElem? hi
theorem in_app {a b big : List Cond} (ha : ∀ w ∈ a, w ∈ big) (hb : ∀ w ∈ b, w ∈ big) : ∀ w ∈ a ++ b, w ∈ big := fun w h => (List.mem_append.mp h).elim (ha w) (hb w)
set_option maxRecDepth 20000 in
theorem il_L_law0_r1 : ∀ w ∈ wsL_law0_r1, w ∈ lw_tbl := in_r _ [96, 97, 70, 1212, 1213, 86, 1739, 98, 99, 100, 101, 102, 103, 104, 105, 71, 559, 156, 157, 72, 560, 420, 421, 83] (by decide +kernel)
set_option maxRecDepth 20000 in
theorem il_L_law0_r2 : ∀ w ∈ wsL_law0_r2, w ∈ lw_tbl := in_r _ [561, 562, 479, 480, 84, 563, 509, 510, 85, 564, 195, 565, 566, 155, 567, 568, 107, 108, 109, 116, 118, 110, 120, 123] (by decide +kernel)
set_option maxRecDepth 20000 in
theorem il_L_law0_r3 : ∀ w ∈ wsL_law0_r3, w ∈ lw_tbl := in_r _ [112, 126, 131, 114, 135, 136, 158, 159, 160, 161, 162, 397, 399, 401, 404, 164, 165, 73, 405, 406, 360, 80, 167, 168] (by decide +kernel)
set_option maxRecDepth 20000 in
theorem il_L_law0_r4 : ∀ w ∈ wsL_law0_r4, w ∈ lw_tbl := in_r _ [169, 170, 172, 196, 197, 198, 203, 204, 205, 74, 206, 1758, 207, 208, 209, 210, 211, 1757, 213, 214, 75, 215, 216, 217] (by decide +kernel)
set_option maxRecDepth 20000 in
theorem il_L_law0_r5 : ∀ w ∈ wsL_law0_r5, w ∈ lw_tbl := in_r _ [218, 219, 220, 76, 221, 222, 223, 224, 225, 226, 227, 228, 229, 230, 231, 232, 233, 234, 236, 237, 77, 238, 239, 240] (by decide +kernel)
set_option maxRecDepth 20000 in
theorem il_L_law0_r6 : ∀ w ∈ wsL_law0_r6, w ∈ lw_tbl := in_r _ [241, 242, 244, 246, 248, 249, 250, 255, 256, 257, 258, 171, 173, 174, 175, 176, 177, 259, 260, 78, 261, 262, 264, 0] (by decide +kernel)
set_option maxRecDepth 20000 in
theorem il_L_law0_r7 : ∀ w ∈ wsL_law0_r7, w ∈ lw_tbl := in_r _ [265, 266, 267, 268, 269, 270, 271, 272, 273, 274, 275, 276, 277, 278, 279, 280, 281, 282, 283, 284, 288, 289, 290, 291] (by decide +kernel)
set_option maxRecDepth 20000 in
theorem il_L_law0_r8 : ∀ w ∈ wsL_law0_r8, w ∈ lw_tbl := in_r _ [285, 286, 287, 292, 293, 294, 295, 296, 297, 298, 299, 300, 301, 302, 303, 304, 305, 306, 307, 308, 309, 310, 311, 312] (by decide +kernel)
set_option maxRecDepth 20000 in
theorem il_L_law0_r9 : ∀ w ∈ wsL_law0_r9, w ∈ lw_tbl := in_r _ [313, 314, 315, 316, 317, 318, 319, 320, 79, 321, 322, 323, 324, 325, 326, 327, 328, 329, 330, 331, 332, 333, 335, 1] (by decide +kernel)
set_option maxRecDepth 20000 in
theorem il_L_law0_r10 : ∀ w ∈ wsL_law0_r10, w ∈ lw_tbl := in_r _ [336, 337, 339, 2, 340, 341, 343, 3, 344, 345, 347, 4, 348, 349, 351, 5, 352, 353, 355, 6, 356, 357, 358, 359] (by decide +kernel)
set_option maxRecDepth 20000 in
theorem il_L_law0_r11 : ∀ w ∈ wsL_law0_r11, w ∈ lw_tbl := in_r _ [361, 362, 363, 364, 365, 366, 81, 367, 368, 369, 370, 371, 372, 374, 375, 376, 378, 377, 82, 379, 380, 381, 382, 383] (by decide +kernel)
set_option maxRecDepth 20000 in
theorem il_L_law0_r12 : ∀ w ∈ wsL_law0_r12, w ∈ lw_tbl := in_r _ [385, 387, 422, 423, 424, 425, 428, 431, 434, 437, 440, 442, 444, 446, 449, 452, 426, 427, 481, 482, 483, 484, 485, 490] (by decide +kernel)
set_option maxRecDepth 20000 in
theorem il_L_law0_r13 : ∀ w ∈ wsL_law0_r13, w ∈ lw_tbl := in_r _ [492, 494, 487, 488, 489, 511, 512, 513, 514, 517, 519, 521, 522, 523, 515, 516, 1214, 1215, 1216, 1217, 1241, 1243, 1244, 1245] (by decide +kernel)
set_option maxRecDepth 20000 in
theorem il_L_law0_r14 : ∀ w ∈ wsL_law0_r14, w ∈ lw_tbl := in_r _ [1247, 1248, 1249, 1251, 1252, 1253, 1254, 1255, 1256, 1257, 1258, 1259, 396, 1261, 1262, 1263, 1264, 1266, 1267, 1268, 1269, 1270, 1272, 1273] (by decide +kernel)
set_option maxRecDepth 20000 in
theorem il_L_law0_r15 : ∀ w ∈ wsL_law0_r15, w ∈ lw_tbl := in_r _ [1274, 1276, 1279, 1280, 1281, 1282, 1220, 1289, 1290, 1291, 1294, 1295, 1219, 1221, 1222, 1223, 1224, 1225, 1226, 1227, 1228, 1229, 1230, 1231] (by decide +kernel)
set_option maxRecDepth 20000 in
theorem il_L_law0_r16 : ∀ w ∈ wsL_law0_r16, w ∈ lw_tbl := in_r _ [1232, 1233, 1234, 1235, 1236, 1237, 1238, 1239, 1240, 590, 591, 592, 593, 119, 117, 594, 595, 596, 1420, 1421, 1422, 1423, 1278, 1242] (by decide +kernel)
set_option maxRecDepth 20000 in
theorem il_L_law0_r17 : ∀ w ∈ wsL_law0_r17, w ∈ lw_tbl := in_r _ [1424, 1425, 1426, 597, 598, 599, 600, 601, 124, 121, 602, 603, 87, 604, 605, 606, 607, 608, 610, 612, 621, 622, 623, 624] (by decide +kernel)
set_option maxRecDepth 20000 in
theorem il_L_law0_r18 : ∀ w ∈ wsL_law0_r18, w ∈ lw_tbl := in_r _ [1427, 1428, 1429, 1430, 1431, 1246, 1432, 1434, 26, 1435, 625, 626, 627, 628, 429, 137, 633, 634, 88, 629, 630, 631, 632, 635] (by decide +kernel)
set_option maxRecDepth 20000 in
theorem il_L_law0_r19 : ∀ w ∈ wsL_law0_r19, w ∈ lw_tbl := in_r _ [636, 637, 638, 639, 641, 643, 652, 653, 654, 655, 642, 1436, 1437, 1438, 1439, 1250, 1440, 1442, 27, 1443, 1444, 1446, 28, 1447] (by decide +kernel)
set_option maxRecDepth 20000 in
theorem il_L_law0_r20 : ∀ w ∈ wsL_law0_r20, w ∈ lw_tbl := in_r _ [656, 657, 658, 659, 133, 660, 661, 89, 666, 668, 671, 674, 677, 679, 682, 686, 690, 127, 663, 664, 665, 719, 720, 721] (by decide +kernel)
set_option maxRecDepth 20000 in
theorem il_L_law0_r21 : ∀ w ∈ wsL_law0_r21, w ∈ lw_tbl := in_r _ [722, 670, 689, 723, 724, 725, 726, 1448, 1449, 1450, 1451, 1260, 1452, 1454, 29, 1455, 1456, 1458, 30, 1459, 727, 728, 729, 730] (by decide +kernel)
set_option maxRecDepth 20000 in
theorem il_L_law0_r22 : ∀ w ∈ wsL_law0_r22, w ∈ lw_tbl := in_r _ [1460, 1461, 1462, 1463, 1275, 731, 732, 733, 734, 1464, 1465, 1466, 1467, 735, 736, 737, 738, 400, 739, 740, 741, 742, 1468, 1469] (by decide +kernel)
set_option maxRecDepth 20000 in
theorem il_L_law0_r23 : ∀ w ∈ wsL_law0_r23, w ∈ lw_tbl := in_r _ [1470, 1471, 1265, 1286, 1287, 1472, 1474, 31, 1475, 1283, 1284, 1285, 1288, 1476, 1477, 1478, 1483, 1485, 32, 1486, 1487, 1489, 33, 1519] (by decide +kernel)
set_option maxRecDepth 20000 in
theorem il_L_law0_r24 : ∀ w ∈ wsL_law0_r24, w ∈ lw_tbl := in_r _ [1521, 41, 1522, 1507, 1509, 38, 1510, 1511, 1513, 39, 1514, 1490, 1491, 1493, 34, 1494, 1495, 1497, 35, 1502, 1503, 1505, 37, 1498] (by decide +kernel)
set_option maxRecDepth 20000 in
theorem il_L_law0_r25 : ∀ w ∈ wsL_law0_r25, w ∈ lw_tbl := in_r _ [1499, 1501, 36, 1506, 1515, 1517, 40, 1518, 1523, 1525, 42, 1526, 1527, 743, 744, 745, 746, 747, 749, 7, 750, 751, 752, 753] (by decide +kernel)
set_option maxRecDepth 20000 in
theorem il_L_law0_r26 : ∀ w ∈ wsL_law0_r26, w ∈ lw_tbl := in_r _ [754, 755, 756, 757, 758, 644, 640, 759, 761, 8, 762, 125, 763, 765, 9, 766, 134, 767, 768, 769, 770, 130, 681, 771] (by decide +kernel)
set_option maxRecDepth 20000 in
theorem il_L_law0_r27 : ∀ w ∈ wsL_law0_r27, w ∈ lw_tbl := in_r _ [772, 773, 774, 122, 611, 669, 403, 676, 613, 667, 775, 776, 777, 778, 779, 780, 781, 782, 384, 386, 783, 784, 785, 786] (by decide +kernel)
set_option maxRecDepth 20000 in
theorem il_L_law0_r28 : ∀ w ∈ wsL_law0_r28, w ∈ lw_tbl := in_r _ [388, 787, 789, 10, 790, 791, 792, 793, 794, 795, 796, 797, 798, 799, 800, 678, 673, 684, 801, 802, 803, 804, 685, 805] (by decide +kernel)
set_option maxRecDepth 20000 in
theorem il_L_law0_r29 : ∀ w ∈ wsL_law0_r29, w ∈ lw_tbl := in_r _ [806, 90, 807, 808, 809, 810, 811, 813, 11, 814, 815, 817, 12, 818, 819, 820, 821, 822, 609, 823, 824, 826, 13, 827] (by decide +kernel)
set_option maxRecDepth 20000 in
theorem il_L_law0_r30 : ∀ w ∈ wsL_law0_r30, w ∈ lw_tbl := in_r _ [828, 829, 830, 831, 832, 680, 833, 834, 835, 836, 838, 14, 839, 840, 841, 842, 843, 845, 846, 847, 849, 15, 850, 851] (by decide +kernel)
set_option maxRecDepth 20000 in
theorem il_L_law0_r31 : ∀ w ∈ wsL_law0_r31, w ∈ lw_tbl := in_r _ [853, 16, 854, 688, 1528, 1529, 1530, 1531, 1532, 1534, 43, 1535, 1536, 1538, 44, 1539, 1540, 1542, 45, 1543, 1587, 1544, 1546, 46] (by decide +kernel)
set_option maxRecDepth 20000 in
theorem il_L_law0_r32 : ∀ w ∈ wsL_law0_r32, w ∈ lw_tbl := in_r _ [1547, 1548, 1550, 47, 1551, 1552, 1554, 48, 1555, 1556, 1558, 49, 1559, 1560, 1562, 50, 1563, 1564, 1566, 51, 1567, 1568, 1570, 52] (by decide +kernel)
set_option maxRecDepth 20000 in
theorem il_L_law0_r33 : ∀ w ∈ wsL_law0_r33, w ∈ lw_tbl := in_r _ [1571, 1572, 1574, 1576, 1578, 53, 1579, 1580, 1581, 1582, 1583, 1584, 1585, 1586, 1082, 1083, 69, 1084, 1085, 1086, 1087, 1088, 1089, 1090] (by decide +kernel)
set_option maxRecDepth 20000 in
theorem il_L_law0_r34 : ∀ w ∈ wsL_law0_r34, w ∈ lw_tbl := in_r _ [94, 433, 439, 441, 436, 993, 994, 995, 996, 997, 967, 968, 969, 1155, 1156, 1157, 1158, 1159, 1588, 1589, 1590, 1591, 1592, 1594] (by decide +kernel)
set_option maxRecDepth 20000 in
theorem il_L_law0_r35 : ∀ w ∈ wsL_law0_r35, w ∈ lw_tbl := in_r _ [54, 1595, 1416, 1417, 1418, 1419, 855, 856, 857, 858, 443, 445, 448, 451, 859, 860, 861, 862, 863, 864, 865, 866, 867, 868] (by decide +kernel)
set_option maxRecDepth 20000 in
theorem il_L_law0_r36 : ∀ w ∈ wsL_law0_r36, w ∈ lw_tbl := in_r _ [869, 1596, 1597, 1598, 1599, 1600, 1602, 55, 1603, 1604, 1606, 56, 1607, 870, 871, 872, 873, 874, 1608, 1609, 1610, 1611, 1161, 1162] (by decide +kernel)
set_option maxRecDepth 20000 in
theorem il_L_law0_r37 : ∀ w ∈ wsL_law0_r37, w ∈ lw_tbl := in_r _ [1163, 1164, 1165, 1166, 1167, 1169, 1612, 1613, 1614, 1615, 875, 876, 877, 878, 879, 880, 881, 882, 1616, 1617, 1618, 1619, 883, 884] (by decide +kernel)
set_option maxRecDepth 20000 in
theorem il_L_law0_r38 : ∀ w ∈ wsL_law0_r38, w ∈ lw_tbl := in_r _ [885, 886, 493, 495, 887, 888, 889, 890, 891, 892, 893, 894, 895, 1620, 1621, 1622, 1623, 1271, 1277, 1624, 1626, 57, 1627, 896] (by decide +kernel)
set_option maxRecDepth 20000 in
theorem il_L_law0_r39 : ∀ w ∈ wsL_law0_r39, w ∈ lw_tbl := in_r _ [897, 898, 899, 491, 900, 901, 95, 902, 903, 904, 905, 916, 906, 908, 910, 912, 914, 1628, 1629, 1630, 1631, 932, 933, 934] (by decide +kernel)
set_option maxRecDepth 20000 in
theorem il_L_law0_r40 : ∀ w ∈ wsL_law0_r40, w ∈ lw_tbl := in_r _ [935, 918, 936, 937, 938, 939, 1632, 1633, 1634, 1635, 940, 941, 942, 943, 1636, 1637, 1638, 1639, 944, 945, 946, 947, 948, 949] (by decide +kernel)
set_option maxRecDepth 20000 in
theorem il_L_law0_r41 : ∀ w ∈ wsL_law0_r41, w ∈ lw_tbl := in_r _ [950, 951, 909, 917, 952, 953, 954, 955, 402, 911, 913, 915, 453, 907, 956, 957, 1640, 1641, 1642, 1643, 1644, 1646, 58, 1647] (by decide +kernel)
set_option maxRecDepth 20000 in
theorem il_L_law0_r42 : ∀ w ∈ wsL_law0_r42, w ∈ lw_tbl := in_r _ [1648, 1650, 59, 1651, 958, 959, 960, 961, 962, 963, 964, 965, 132, 966, 970, 972, 17, 973, 974, 975, 1652, 1653, 1654, 1655] (by decide +kernel)
set_option maxRecDepth 20000 in
theorem il_L_law0_r43 : ∀ w ∈ wsL_law0_r43, w ∈ lw_tbl := in_r _ [1170, 1171, 1172, 1173, 1174, 1175, 1176, 1178, 1179, 1180, 1181, 447, 129, 672, 691, 675, 1182, 1656, 1657, 1658, 1659, 1660, 1662, 60] (by decide +kernel)
set_option maxRecDepth 20000 in
theorem il_L_law0_r44 : ∀ w ∈ wsL_law0_r44, w ∈ lw_tbl := in_r _ [1663, 1183, 1184, 1185, 1186, 1187, 1188, 1189, 1191, 1192, 1193, 1194, 1195, 1664, 1665, 1666, 1667, 976, 977, 978, 979, 693, 695, 1668] (by decide +kernel)
set_option maxRecDepth 20000 in
theorem il_L_law0_r45 : ∀ w ∈ wsL_law0_r45, w ∈ lw_tbl := in_r _ [1669, 1670, 1671, 980, 981, 982, 983, 984, 985, 986, 987, 692, 694, 988, 1672, 1673, 1674, 1675, 989, 990, 991, 992, 998, 999] (by decide +kernel)
set_option maxRecDepth 20000 in
theorem il_L_law0_r46 : ∀ w ∈ wsL_law0_r46, w ∈ lw_tbl := in_r _ [1000, 1001, 1002, 1676, 1677, 1678, 1679, 1003, 1004, 1005, 1006, 1007, 1008, 1009, 1010, 1011, 1012, 1013, 1014, 1680, 1681, 1682, 1683, 1684] (by decide +kernel)
set_option maxRecDepth 20000 in
theorem il_L_law0_r47 : ∀ w ∈ wsL_law0_r47, w ∈ lw_tbl := in_r _ [1686, 61, 1687, 1015, 1016, 1017, 1018, 526, 524, 1064, 528, 1019, 1020, 1021, 1022, 518, 531, 525, 527, 529, 1023, 1025, 18, 1026] (by decide +kernel)
set_option maxRecDepth 20000 in
theorem il_L_law0_r48 : ∀ w ∈ wsL_law0_r48, w ∈ lw_tbl := in_r _ [1027, 1028, 1029, 1031, 19, 1032, 520, 1033, 1034, 1036, 20, 1037, 1038, 1039, 1041, 21, 1042, 430, 438, 432, 450, 435, 128, 687] (by decide +kernel)
set_option maxRecDepth 20000 in
theorem il_L_law0_r49 : ∀ w ∈ wsL_law0_r49, w ∈ lw_tbl := in_r _ [1043, 1045, 22, 1046, 1051, 1047, 1049, 23, 1050, 1053, 1054, 1055, 1056, 1057, 1059, 24, 1060, 683, 1063, 1061, 1062, 1688, 1689, 1690] (by decide +kernel)
set_option maxRecDepth 20000 in
theorem il_L_law0_r50 : ∀ w ∈ wsL_law0_r50, w ∈ lw_tbl := in_r _ [1691, 1292, 1293, 1296, 1692, 1694, 62, 1695, 1298, 1696, 1698, 63, 1699, 1700, 1701, 1702, 1703, 1705, 64, 1706, 1707, 1709, 65, 1710] (by decide +kernel)
set_option maxRecDepth 20000 in
theorem il_L_law0_r51 : ∀ w ∈ wsL_law0_r51, w ∈ lw_tbl := in_r _ [1711, 1713, 66, 1714, 1297, 1065, 1066, 1067, 1068, 530, 1715, 1716, 1717, 1718, 1069, 1070, 1071, 1072, 398, 1073, 1074, 1075, 1076, 1077] (by decide +kernel)
set_option maxRecDepth 20000 in
theorem il_L_law0_r52 : ∀ w ∈ wsL_law0_r52, w ∈ lw_tbl := in_r _ [1078, 1079, 1080, 1081, 1719, 1720, 1721, 1722, 1723, 1725, 67, 1726, 1727, 1729, 68, 1730, 1196, 1197, 1198, 1199, 1200, 1201, 1202, 1731] (by decide +kernel)
set_option maxRecDepth 20000 in
theorem il_L_law0_r53 : ∀ w ∈ wsL_law0_r53, w ∈ lw_tbl := in_r _ [1732, 1733, 1734, 1204, 1205, 1206, 1207, 1208, 1209, 1210, 1735, 1736, 1737, 1738] (by decide +kernel)
set_option maxRecDepth 20000 in
theorem il_X110 : ∀ w ∈ wsX110, w ∈ lw_tbl := in_r _ [569, 571, 573, 575, 577, 579, 581, 583, 585, 587] (by decide +kernel)
set_option maxRecDepth 20000 in
theorem il_X120 : ∀ w ∈ wsX120, w ∈ lw_tbl := in_r _ [1299, 1301, 1303, 1305, 1307, 1309, 1311, 1313, 1315, 1317, 1319, 1321, 1323, 1325, 1327, 1329, 1331, 1333, 1335, 1337, 1339, 1341, 1343, 1345, 1347, 1349, 1351, 1353, 1355, 1357, 1359, 1361, 1363, 1365, 1367, 1369, 1371, 1373, 1375, 1377, 1379, 1381, 1383, 1385, 1387, 1389, 1391, 1393, 1395, 1397, 1399, 1401, 1403, 1405, 1407, 1409, 1411, 1413] (by decide +kernel)
set_option maxRecDepth 20000 in
theorem il_X10 : ∀ w ∈ wsX10, w ∈ lw_tbl := in_r _ [138, 140, 142, 144, 146, 148, 150, 152] (by decide +kernel)
set_option maxRecDepth 20000 in
theorem il_X100 : ∀ w ∈ wsX100, w ∈ lw_tbl := in_r _ [407, 409, 411, 413, 415, 417] (by decide +kernel)
set_option maxRecDepth 20000 in
theorem il_X30 : ∀ w ∈ wsX30, w ∈ lw_tbl := in_r _ [454, 456, 458, 460, 462, 464, 466, 468, 470, 472, 474, 476] (by decide +kernel)
set_option maxRecDepth 20000 in
theorem il_X50 : ∀ w ∈ wsX50, w ∈ lw_tbl := in_r _ [496, 498, 500, 502, 504, 506] (by decide +kernel)
set_option maxRecDepth 20000 in
theorem il_X70 : ∀ w ∈ wsX70, w ∈ lw_tbl := in_r _ [532, 534, 536, 538, 540, 542, 544, 546, 548, 550, 552, 554, 556] (by decide +kernel)
set_option maxRecDepth 20000 in
theorem il_X80 : ∀ w ∈ wsX80, w ∈ lw_tbl := in_r _ [178, 180, 182, 184, 186, 188, 190, 192] (by decide +kernel)
set_option maxRecDepth 20000 in
theorem il_X90 : ∀ w ∈ wsX90, w ∈ lw_tbl := in_r _ [389, 391, 393] (by decide +kernel)
set_option maxRecDepth 20000 in
theorem il_X40 : ∀ w ∈ wsX40, w ∈ lw_tbl := in_r _ [614, 616, 618] (by decide +kernel)
set_option maxRecDepth 20000 in
theorem il_X00 : ∀ w ∈ wsX00, w ∈ lw_tbl := in_r _ [645, 647, 649] (by decide +kernel)
set_option maxRecDepth 20000 in
theorem il_X60 : ∀ w ∈ wsX60, w ∈ lw_tbl := in_r _ [696, 698, 700, 702, 704, 706, 708, 710, 712, 714, 716] (by decide +kernel)
set_option maxRecDepth 20000 in
theorem il_X20 : ∀ w ∈ wsX20, w ∈ lw_tbl := in_r _ [919, 921, 923, 925, 927, 929] (by decide +kernel)
theorem wsL_law_in0 : ∀ w ∈ wsL_law0, w ∈ lw_tbl := (in_app (in_app (in_app (in_app (in_app (in_app (in_app (in_app (in_app (in_app (in_app (in_app (in_app (in_app (in_app il_L_law0_r1 (in_app il_L_law0_r2 (in_app il_L_law0_r3 (in_app il_L_law0_r4 (in_app il_L_law0_r5 (in_app il_L_law0_r6 (in_app il_L_law0_r7 (in_app il_L_law0_r8 (in_app il_L_law0_r9 (in_app il_L_law0_r10 (in_app il_L_law0_r11 (in_app il_L_law0_r12 (in_app il_L_law0_r13 (in_app il_L_law0_r14 (in_app il_L_law0_r15 (in_app il_L_law0_r16 (in_app il_L_law0_r17 (in_app il_L_law0_r18 (in_app il_L_law0_r19 (in_app il_L_law0_r20 (in_app il_L_law0_r21 (in_app il_L_law0_r22 (in_app il_L_law0_r23 (in_app il_L_law0_r24 (in_app il_L_law0_r25 (in_app il_L_law0_r26 (in_app il_L_law0_r27 (in_app il_L_law0_r28 (in_app il_L_law0_r29 (in_app il_L_law0_r30 (in_app il_L_law0_r31 (in_app il_L_law0_r32 (in_app il_L_law0_r33 (in_app il_L_law0_r34 (in_app il_L_law0_r35 (in_app il_L_law0_r36 (in_app il_L_law0_r37 (in_app il_L_law0_r38 (in_app il_L_law0_r39 (in_app il_L_law0_r40 (in_app il_L_law0_r41 (in_app il_L_law0_r42 (in_app il_L_law0_r43 (in_app il_L_law0_r44 (in_app il_L_law0_r45 (in_app il_L_law0_r46 (in_app il_L_law0_r47 (in_app il_L_law0_r48 (in_app il_L_law0_r49 (in_app il_L_law0_r50 (in_app il_L_law0_r51 (in_app il_L_law0_r52 il_L_law0_r53)))))))))))))))))))))))))))))))))))))))))))))))))))) il_X110) il_X120) il_X10) il_X100) il_X30) il_X50) il_X70) il_X80) il_X90) il_X40) il_X00) il_X60) il_X20) (fun _ h => absurd h List.not_mem_nil))
theorem wsL_law_x0 : ∀ w ∈ ux_at, w ∈ lw_tbl := by decide +kernel
theorem wsL_law_in : ∀ w ∈ wsL_law, w ∈ lw_tbl := fun w h => (List.mem_append.mp h).elim (fun h => wsL_law_in0 w h) (fun h => wsL_law_x0 w h)
theorem inlX0 : ∀ w ∈ wsX00, w ∈ wsL_law := fun _ h => List.mem_append_left _ (List.mem_append_left _ (List.mem_append_left _ (List.mem_append_left _ (List.mem_append_right _ h))))
theorem inX0 : ∀ w ∈ wsX00, w ∈ lw_tbl := fun w h => wsL_law_in w (inlX0 w h)
theorem inlX1 : ∀ w ∈ wsX10, w ∈ wsL_law := fun _ h => List.mem_append_left _ (List.mem_append_left _ (List.mem_append_left _ (List.mem_append_left _ (List.mem_append_left _ (List.mem_append_left _ (List.mem_append_left _ (List.mem_append_left _ (List.mem_append_left _ (List.mem_append_left _ (List.mem_append_left _ (List.mem_append_left _ (List.mem_append_right _ h))))))))))))
theorem inX1 : ∀ w ∈ wsX10, w ∈ lw_tbl := fun w h => wsL_law_in w (inlX1 w h)
theorem inlX2 : ∀ w ∈ wsX20, w ∈ wsL_law := fun _ h => List.mem_append_left _ (List.mem_append_left _ (List.mem_append_right _ h))
theorem inX2 : ∀ w ∈ wsX20, w ∈ lw_tbl := fun w h => wsL_law_in w (inlX2 w h)
theorem inlX3 : ∀ w ∈ wsX30, w ∈ wsL_law := fun _ h => List.mem_append_left _ (List.mem_append_left _ (List.mem_append_left _ (List.mem_append_left _ (List.mem_append_left _ (List.mem_append_left _ (List.mem_append_left _ (List.mem_append_left _ (List.mem_append_left _ (List.mem_append_left _ (List.mem_append_right _ h))))))))))
theorem inX3 : ∀ w ∈ wsX30, w ∈ lw_tbl := fun w h => wsL_law_in w (inlX3 w h)
theorem inlX4 : ∀ w ∈ wsX40, w ∈ wsL_law := fun _ h => List.mem_append_left _ (List.mem_append_left _ (List.mem_append_left _ (List.mem_append_left _ (List.mem_append_left _ (List.mem_append_right _ h)))))
theorem inX4 : ∀ w ∈ wsX40, w ∈ lw_tbl := fun w h => wsL_law_in w (inlX4 w h)
theorem inlX5 : ∀ w ∈ wsX50, w ∈ wsL_law := fun _ h => List.mem_append_left _ (List.mem_append_left _ (List.mem_append_left _ (List.mem_append_left _ (List.mem_append_left _ (List.mem_append_left _ (List.mem_append_left _ (List.mem_append_left _ (List.mem_append_left _ (List.mem_append_right _ h)))))))))
theorem inX5 : ∀ w ∈ wsX50, w ∈ lw_tbl := fun w h => wsL_law_in w (inlX5 w h)
theorem inlX6 : ∀ w ∈ wsX60, w ∈ wsL_law := fun _ h => List.mem_append_left _ (List.mem_append_left _ (List.mem_append_left _ (List.mem_append_right _ h)))
theorem inX6 : ∀ w ∈ wsX60, w ∈ lw_tbl := fun w h => wsL_law_in w (inlX6 w h)
theorem inlX7 : ∀ w ∈ wsX70, w ∈ wsL_law := fun _ h => List.mem_append_left _ (List.mem_append_left _ (List.mem_append_left _ (List.mem_append_left _ (List.mem_append_left _ (List.mem_append_left _ (List.mem_append_left _ (List.mem_append_left _ (List.mem_append_right _ h))))))))
theorem inX7 : ∀ w ∈ wsX70, w ∈ lw_tbl := fun w h => wsL_law_in w (inlX7 w h)
theorem inlX8 : ∀ w ∈ wsX80, w ∈ wsL_law := fun _ h => List.mem_append_left _ (List.mem_append_left _ (List.mem_append_left _ (List.mem_append_left _ (List.mem_append_left _ (List.mem_append_left _ (List.mem_append_left _ (List.mem_append_right _ h)))))))
theorem inX8 : ∀ w ∈ wsX80, w ∈ lw_tbl := fun w h => wsL_law_in w (inlX8 w h)
theorem inlX9 : ∀ w ∈ wsX90, w ∈ wsL_law := fun _ h => List.mem_append_left _ (List.mem_append_left _ (List.mem_append_left _ (List.mem_append_left _ (List.mem_append_left _ (List.mem_append_left _ (List.mem_append_right _ h))))))
theorem inX9 : ∀ w ∈ wsX90, w ∈ lw_tbl := fun w h => wsL_law_in w (inlX9 w h)
theorem inlX10 : ∀ w ∈ wsX100, w ∈ wsL_law := fun _ h => List.mem_append_left _ (List.mem_append_left _ (List.mem_append_left _ (List.mem_append_left _ (List.mem_append_left _ (List.mem_append_left _ (List.mem_append_left _ (List.mem_append_left _ (List.mem_append_left _ (List.mem_append_left _ (List.mem_append_left _ (List.mem_append_right _ h)))))))))))
theorem inX10 : ∀ w ∈ wsX100, w ∈ lw_tbl := fun w h => wsL_law_in w (inlX10 w h)
theorem inlX11 : ∀ w ∈ wsX110, w ∈ wsL_law := fun _ h => List.mem_append_left _ (List.mem_append_left _ (List.mem_append_left _ (List.mem_append_left _ (List.mem_append_left _ (List.mem_append_left _ (List.mem_append_left _ (List.mem_append_left _ (List.mem_append_left _ (List.mem_append_left _ (List.mem_append_left _ (List.mem_append_left _ (List.mem_append_left _ (List.mem_append_left _ (List.mem_append_right _ h))))))))))))))
theorem inX11 : ∀ w ∈ wsX110, w ∈ lw_tbl := fun w h => wsL_law_in w (inlX11 w h)
theorem inlX12 : ∀ w ∈ wsX120, w ∈ wsL_law := fun _ h => List.mem_append_left _ (List.mem_append_left _ (List.mem_append_left _ (List.mem_append_left _ (List.mem_append_left _ (List.mem_append_left _ (List.mem_append_left _ (List.mem_append_left _ (List.mem_append_left _ (List.mem_append_left _ (List.mem_append_left _ (List.mem_append_left _ (List.mem_append_left _ (List.mem_append_right _ h)))))))))))))
theorem inX12 : ∀ w ∈ wsX120, w ∈ lw_tbl := fun w h => wsL_law_in w (inlX12 w h)
theorem inJ11 : ∀ w ∈ wsJ110, w ∈ lw_tbl := by decide +kernel
theorem inJx8e188 : ∀ w ∈ wsJx8e1880, w ∈ lw_tbl := by decide +kernel
theorem inJ6 : ∀ w ∈ wsJ60, w ∈ lw_tbl := by decide +kernel
theorem inJ9 : ∀ w ∈ wsJ90, w ∈ lw_tbl := by decide +kernel
theorem inJ0 : ∀ w ∈ wsJ00, w ∈ lw_tbl := by decide +kernel
theorem inJ1 : ∀ w ∈ wsJ10, w ∈ lw_tbl := by decide +kernel
theorem inJ2 : ∀ w ∈ wsJ20, w ∈ lw_tbl := by decide +kernel
theorem inJ10 : ∀ w ∈ wsJ100, w ∈ lw_tbl := by decide +kernel
theorem inJ7 : ∀ w ∈ wsJ70, w ∈ lw_tbl := by decide +kernel
theorem inJ3 : ∀ w ∈ wsJ30, w ∈ lw_tbl := by decide +kernel
