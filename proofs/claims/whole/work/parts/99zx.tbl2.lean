/-! LAW: its words stand in the tables, the second half -/
set_option maxRecDepth 100000 in
theorem kw_wsL_law0_r27 : ∀ w ∈ wsL_law0_r27, w ∈ lw_tbl := mem_pl [785, 786, 787, 257, 250, 252, 788, 789, 790, 791, 792, 793, 794, 805, 205, 213, 210, 216, 218, 147, 795, 796, 797, 798] rfl
set_option maxRecDepth 100000 in
theorem kw_wsL_law0_r28 : ∀ w ∈ wsL_law0_r28, w ∈ lw_tbl := mem_pl [799, 800, 801, 802, 803, 804, 806, 807, 808, 810, 20, 811, 815, 816, 817, 818, 813, 814, 819, 821, 21, 822, 1558, 1559] rfl
set_option maxRecDepth 100000 in
theorem kw_wsL_law0_r29 : ∀ w ∈ wsL_law0_r29, w ∈ lw_tbl := mem_pl [1560, 1561, 1283, 1284, 1562, 1563, 1564, 1565, 1567, 69, 1568, 1569, 1571, 70, 1572, 1573, 1574, 823, 824, 825, 826, 827, 828, 829] rfl
set_option maxRecDepth 100000 in
theorem kw_wsL_law0_r30 : ∀ w ∈ wsL_law0_r30, w ∈ lw_tbl := mem_pl [830, 1575, 1576, 1577, 1578, 831, 832, 833, 834, 165, 835, 836, 837, 838, 839, 840, 116, 841, 842, 843, 844, 1579, 1580, 1581] rfl
set_option maxRecDepth 100000 in
theorem kw_wsL_law0_r31 : ∀ w ∈ wsL_law0_r31, w ∈ lw_tbl := mem_pl [1582, 845, 846, 847, 848, 335, 849, 850, 851, 852, 150, 146, 156, 853, 855, 22, 856, 348, 402, 352, 355, 857, 859, 23] rfl
set_option maxRecDepth 100000 in
theorem kw_wsL_law0_r32 : ∀ w ∈ wsL_law0_r32, w ∈ lw_tbl := mem_pl [860, 255, 861, 862, 863, 864, 865, 866, 867, 869, 24, 870, 159, 161, 163, 871, 872, 874, 25, 875, 876, 878, 26, 879] rfl
set_option maxRecDepth 100000 in
theorem kw_wsL_law0_r33 : ∀ w ∈ wsL_law0_r33, w ∈ lw_tbl := mem_pl [880, 881, 882, 884, 27, 885, 886, 887, 888, 889, 891, 28, 892, 1583, 1584, 1585, 1586, 1587, 1589, 71, 1590, 1591, 1593, 72] rfl
set_option maxRecDepth 100000 in
theorem kw_wsL_law0_r34 : ∀ w ∈ wsL_law0_r34, w ∈ lw_tbl := mem_pl [1594, 1599, 1595, 1597, 73, 1598, 1600, 1601, 1602, 1603, 1605, 74, 1606, 1607, 1609, 75, 1610, 1258, 1611, 1613, 76, 1614, 1621, 1619] rfl
set_option maxRecDepth 100000 in
theorem kw_wsL_law0_r35 : ∀ w ∈ wsL_law0_r35, w ∈ lw_tbl := mem_pl [1615, 1617, 77, 1618, 1620, 893, 894, 895, 896, 897, 1622, 1623, 1624, 1625, 1626, 1627, 1628, 898, 899, 900, 901, 902, 903, 904] rfl
set_option maxRecDepth 100000 in
theorem kw_wsL_law0_r36 : ∀ w ∈ wsL_law0_r36, w ∈ lw_tbl := mem_pl [905, 906, 907, 908, 909, 1629, 1630, 1631, 1632, 1633, 1635, 78, 1636, 1130, 1131, 97, 1132, 1133, 1134, 1135, 1136, 1137, 1138, 1139] rfl
set_option maxRecDepth 100000 in
theorem kw_wsL_law0_r37 : ∀ w ∈ wsL_law0_r37, w ∈ lw_tbl := mem_pl [120, 1205, 121, 383, 1637, 1638, 1639, 1640, 1415, 1416, 1417, 1418, 910, 911, 912, 913, 154, 914, 915, 916, 917, 145, 254, 918] rfl
set_option maxRecDepth 100000 in
theorem kw_wsL_law0_r38 : ∀ w ∈ wsL_law0_r38, w ∈ lw_tbl := mem_pl [919, 920, 921, 922, 924, 29, 925, 926, 927, 928, 929, 930, 931, 932, 933, 934, 935, 936, 937, 938, 939, 940, 941, 942] rfl
set_option maxRecDepth 100000 in
theorem kw_wsL_law0_r39 : ∀ w ∈ wsL_law0_r39, w ∈ lw_tbl := mem_pl [943, 944, 945, 946, 947, 948, 949, 950, 951, 952, 953, 425, 426, 427, 954, 956, 30, 957, 345, 958, 959, 960, 961, 1641] rfl
set_option maxRecDepth 100000 in
theorem kw_wsL_law0_r40 : ∀ w ∈ wsL_law0_r40, w ∈ lw_tbl := mem_pl [1642, 1643, 1644, 1645, 1647, 79, 1648, 1649, 1650, 1651, 1652, 1654, 80, 1655, 1656, 1658, 81, 1659, 1660, 1662, 82, 1663, 1664, 1666] rfl
set_option maxRecDepth 100000 in
theorem kw_wsL_law0_r41 : ∀ w ∈ wsL_law0_r41, w ∈ lw_tbl := mem_pl [83, 1667, 1668, 1670, 84, 1671, 1672, 1674, 85, 1675, 1676, 1678, 86, 1679, 962, 963, 964, 965, 149, 420, 422, 966, 967, 968] rfl
set_option maxRecDepth 100000 in
theorem kw_wsL_law0_r42 : ∀ w ∈ wsL_law0_r42, w ∈ lw_tbl := mem_pl [969, 974, 419, 975, 421, 970, 972, 31, 973, 158, 976, 978, 32, 979, 153, 980, 981, 982, 983, 984, 985, 1680, 1681, 1682] rfl
set_option maxRecDepth 100000 in
theorem kw_wsL_law0_r43 : ∀ w ∈ wsL_law0_r43, w ∈ lw_tbl := mem_pl [1683, 986, 987, 988, 989, 990, 991, 992, 993, 994, 995, 996, 998, 33, 999, 1684, 1685, 1686, 1687, 1688, 1690, 87, 1691, 1000] rfl
set_option maxRecDepth 100000 in
theorem kw_wsL_law0_r44 : ∀ w ∈ wsL_law0_r44, w ∈ lw_tbl := mem_pl [1001, 1002, 1003, 462, 1004, 1005, 1006, 1007, 1008, 204, 209, 212, 215, 1009, 1010, 1011, 1013, 34, 1014, 1015, 1017, 35, 1018, 1019] rfl
set_option maxRecDepth 100000 in
theorem kw_wsL_law0_r45 : ∀ w ∈ wsL_law0_r45, w ∈ lw_tbl := mem_pl [1021, 36, 1022, 1692, 1693, 1694, 1695, 1696, 1698, 88, 1699, 1700, 1702, 89, 1703, 1023, 1024, 1025, 1026, 1027, 1028, 1029, 1030, 1031] rfl
set_option maxRecDepth 100000 in
theorem kw_wsL_law0_r46 : ∀ w ∈ wsL_law0_r46, w ∈ lw_tbl := mem_pl [1032, 1704, 1705, 1706, 1707, 1708, 1710, 90, 1711, 1033, 1034, 1035, 1036, 1037, 1038, 1039, 1040, 1041, 1043, 37, 1044, 1045, 1047, 38] rfl
set_option maxRecDepth 100000 in
theorem kw_wsL_law0_r47 : ∀ w ∈ wsL_law0_r47, w ∈ lw_tbl := mem_pl [1048, 1049, 1051, 1050, 122, 1052, 1054, 39, 1055, 1712, 1713, 1714, 1715, 1056, 1057, 1058, 1059, 1060, 1061, 1062, 1063, 479, 1716, 1717] rfl
set_option maxRecDepth 100000 in
theorem kw_wsL_law0_r48 : ∀ w ∈ wsL_law0_r48, w ∈ lw_tbl := mem_pl [1718, 1719, 1064, 1065, 1066, 1067, 1068, 1069, 1070, 1071, 337, 488, 341, 489, 1072, 1073, 1074, 1075, 1092, 1076, 1078, 40, 1079, 148] rfl
set_option maxRecDepth 100000 in
theorem kw_wsL_law0_r49 : ∀ w ∈ wsL_law0_r49, w ∈ lw_tbl := mem_pl [152, 1080, 1082, 41, 1083, 1084, 1086, 1087, 1088, 1090, 42, 1091, 1093, 1095, 43, 1096, 256, 1097, 1099, 44, 1100, 1101, 1102, 1104] rfl
set_option maxRecDepth 100000 in
theorem kw_wsL_law0_r50 : ∀ w ∈ wsL_law0_r50, w ∈ lw_tbl := mem_pl [1105, 1106, 1107, 1108, 1109, 1110, 1111, 1112, 1720, 1721, 1722, 1723, 1291, 1724, 1726, 91, 1727, 1728, 1730, 92, 1731, 1732, 1734, 93] rfl
set_option maxRecDepth 100000 in
theorem kw_wsL_law0_r51 : ∀ w ∈ wsL_law0_r51, w ∈ lw_tbl := mem_pl [1735, 1736, 1738, 94, 1739, 1740, 1742, 95, 1743, 1744, 1746, 96, 1747, 1748, 1749, 1750, 1113, 1114, 1115, 1116, 482, 484, 1117, 1118] rfl
set_option maxRecDepth 100000 in
theorem kw_wsL_law0_r52 : ∀ w ∈ wsL_law0_r52, w ∈ lw_tbl := mem_pl [1119, 1120, 380, 382, 481, 483, 1121, 1122, 1124, 45, 1125, 1751, 1752, 1753, 1754, 1126, 1127, 1128, 1129, 350, 339, 343, 1755, 1756] rfl
set_option maxRecDepth 100000 in
theorem kw_wsL_law0_r53 : ∀ w ∈ wsL_law0_r53, w ∈ lw_tbl := mem_pl [1757, 1758] rfl
set_option maxRecDepth 100000 in
theorem kw_wsX110 : ∀ w ∈ wsX110, w ∈ lw_tbl := mem_pl [531, 533, 535, 537, 539, 541, 543, 545, 547, 549, 551, 553] rfl
set_option maxRecDepth 100000 in
theorem kw_wsX120 : ∀ w ∈ wsX120, w ∈ lw_tbl := mem_pl [1292, 1294, 1296, 1298, 1300, 1302, 1304, 1306, 1308, 1310, 1312, 1314, 1316, 1318, 1320, 1322, 1324, 1326, 1328, 1330, 1332, 1334, 1336, 1338, 1340, 1342, 1344, 1346, 1348, 1350, 1352, 1354, 1356, 1358, 1360, 1362, 1364, 1366, 1368, 1370, 1372, 1374, 1376, 1378, 1380, 1382, 1384, 1386, 1388, 1390, 1392, 1394, 1396, 1398, 1400, 1402, 1404, 1406, 1408, 1410, 1412] rfl
set_option maxRecDepth 100000 in
theorem kw_wsX40 : ∀ w ∈ wsX40, w ∈ lw_tbl := mem_pl [171, 173, 175, 177, 179, 181, 183, 185, 187, 189, 191, 193] rfl
set_option maxRecDepth 100000 in
theorem kw_wsX50 : ∀ w ∈ wsX50, w ∈ lw_tbl := mem_pl [221, 223, 225, 227, 229, 231, 233, 235] rfl
set_option maxRecDepth 100000 in
theorem kw_wsX00 : ∀ w ∈ wsX00, w ∈ lw_tbl := mem_pl [260, 262, 264, 266, 268, 270] rfl
set_option maxRecDepth 100000 in
theorem kw_wsX60 : ∀ w ∈ wsX60, w ∈ lw_tbl := mem_pl [295, 297, 299, 301, 303, 305, 307, 309, 311, 313, 315, 317, 319] rfl
set_option maxRecDepth 100000 in
theorem kw_wsX80 : ∀ w ∈ wsX80, w ∈ lw_tbl := mem_pl [357, 359, 361, 363, 365, 367, 369] rfl
set_option maxRecDepth 100000 in
theorem kw_wsX10 : ∀ w ∈ wsX10, w ∈ lw_tbl := mem_pl [386, 388, 390] rfl
set_option maxRecDepth 100000 in
theorem kw_wsX30 : ∀ w ∈ wsX30, w ∈ lw_tbl := mem_pl [403, 405, 407, 409] rfl
set_option maxRecDepth 100000 in
theorem kw_wsX100 : ∀ w ∈ wsX100, w ∈ lw_tbl := mem_pl [432, 434, 436, 438, 440, 442, 444, 446, 448, 450, 452] rfl
set_option maxRecDepth 100000 in
theorem kw_wsX70 : ∀ w ∈ wsX70, w ∈ lw_tbl := mem_pl [465, 467, 469] rfl
set_option maxRecDepth 100000 in
theorem kw_wsX20 : ∀ w ∈ wsX20, w ∈ lw_tbl := mem_pl [494, 496, 498, 500, 502, 504, 506, 508, 510, 512, 514, 516] rfl
