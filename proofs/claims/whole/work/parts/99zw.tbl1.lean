/-! LAW: its words stand in the tables (places by program: wip/gen/gin.py) -/
theorem mem_pl {T L : List Cond} (ps : List Nat) (h : ps.map (fun i => T[i]?) = L.map some) : ∀ w ∈ L, w ∈ T := by
  intro w hw
  have h1 : some w ∈ L.map some := List.mem_map_of_mem hw
  rw [← h] at h1
  obtain ⟨i, _, hi⟩ := List.mem_map.mp h1
  exact List.mem_of_getElem? hi
set_option maxRecDepth 100000 in
theorem kw_wsL_law0_r1 : ∀ w ∈ wsL_law0_r1, w ∈ lw_tbl := mem_pl [123, 124, 98, 1221, 1222, 110, 412, 125, 126, 127, 128, 129, 130, 131, 132, 99, 197, 198, 101, 239, 240, 102, 519, 273] rfl
set_option maxRecDepth 100000 in
theorem kw_wsL_law0_r2 : ∀ w ∈ wsL_law0_r2, w ∈ lw_tbl := mem_pl [274, 103, 520, 322, 323, 104, 521, 522, 523, 524, 525, 372, 373, 105, 526, 393, 394, 106, 527, 413, 414, 107, 528, 455] rfl
set_option maxRecDepth 100000 in
theorem kw_wsL_law0_r3 : ∀ w ∈ wsL_law0_r3, w ∈ lw_tbl := mem_pl [456, 108, 529, 472, 473, 109, 530, 133, 134, 135, 136, 196, 155, 157, 169, 170, 137, 138, 139, 140, 166, 144, 151, 167] rfl
set_option maxRecDepth 100000 in
theorem kw_wsL_law0_r4 : ∀ w ∈ wsL_law0_r4, w ∈ lw_tbl := mem_pl [168, 160, 162, 164, 141, 142, 100, 143, 200, 201, 202, 207, 208, 211, 214, 217, 219, 238, 220, 241, 242, 243, 244, 247] rfl
set_option maxRecDepth 100000 in
theorem kw_wsL_law0_r5 : ∀ w ∈ wsL_law0_r5, w ∈ lw_tbl := mem_pl [245, 249, 251, 253, 258, 259, 276, 277, 278, 283, 285, 324, 325, 326, 327, 344, 351, 354, 328, 329, 330, 331, 333, 336] rfl
set_option maxRecDepth 100000 in
theorem kw_wsL_law0_r6 : ∀ w ∈ wsL_law0_r6, w ∈ lw_tbl := mem_pl [340, 347, 332, 375, 376, 377, 381, 384, 395, 396, 397, 398, 401, 399, 400, 415, 416, 417, 418, 428, 429, 430, 431, 423] rfl
set_option maxRecDepth 100000 in
theorem kw_wsL_law0_r7 : ∀ w ∈ wsL_law0_r7, w ∈ lw_tbl := mem_pl [424, 457, 458, 459, 460, 461, 463, 464, 474, 475, 476, 477, 487, 478, 490, 491, 492, 493, 485, 486, 1223, 1224, 1225, 1226] rfl
set_option maxRecDepth 100000 in
theorem kw_wsL_law0_r8 : ∀ w ∈ wsL_law0_r8, w ∈ lw_tbl := mem_pl [1232, 1234, 1235, 1240, 1251, 1252, 1256, 1257, 1262, 1263, 1264, 1265, 1267, 1268, 1270, 1271, 1273, 1275, 1276, 1277, 1278, 1279, 1280, 1281] rfl
set_option maxRecDepth 100000 in
theorem kw_wsL_law0_r9 : ∀ w ∈ wsL_law0_r9, w ∈ lw_tbl := mem_pl [1282, 1285, 1286, 1287, 1288, 1289, 1290, 1227, 1229, 47, 1230, 1260, 1261, 1266, 1269, 1272, 1274, 556, 557, 558, 559, 280, 560, 561] rfl
set_option maxRecDepth 100000 in
theorem kw_wsL_law0_r10 : ∀ w ∈ wsL_law0_r10, w ∈ lw_tbl := mem_pl [562, 563, 279, 564, 565, 566, 567, 1419, 1420, 1421, 1422, 1231, 1233, 568, 569, 570, 571, 572, 573, 574, 575, 294, 577, 578] rfl
set_option maxRecDepth 100000 in
theorem kw_wsL_law0_r11 : ∀ w ∈ wsL_law0_r11, w ∈ lw_tbl := mem_pl [111, 579, 286, 287, 281, 292, 293, 288, 576, 580, 582, 0, 583, 289, 584, 585, 586, 587, 589, 1, 590, 591, 593, 2] rfl
set_option maxRecDepth 100000 in
theorem kw_wsL_law0_r12 : ∀ w ∈ wsL_law0_r12, w ∈ lw_tbl := mem_pl [594, 596, 597, 598, 112, 599, 1776, 600, 601, 602, 603, 604, 1777, 606, 607, 608, 609, 610, 611, 612, 613, 614, 615, 113] rfl
set_option maxRecDepth 100000 in
theorem kw_wsL_law0_r13 : ∀ w ∈ wsL_law0_r13, w ∈ lw_tbl := mem_pl [616, 617, 618, 619, 620, 622, 623, 114, 624, 625, 626, 115, 627, 628, 629, 630, 631, 632, 633, 634, 635, 636, 637, 638] rfl
set_option maxRecDepth 100000 in
theorem kw_wsL_law0_r14 : ∀ w ∈ wsL_law0_r14, w ∈ lw_tbl := mem_pl [640, 642, 644, 645, 646, 647, 649, 3, 650, 290, 651, 653, 4, 654, 655, 657, 5, 658, 659, 661, 6, 662, 663, 665] rfl
set_option maxRecDepth 100000 in
theorem kw_wsL_law0_r15 : ∀ w ∈ wsL_law0_r15, w ∈ lw_tbl := mem_pl [7, 666, 667, 669, 8, 670, 671, 673, 9, 674, 334, 675, 677, 10, 678, 679, 681, 11, 691, 693, 14, 699, 700, 701] rfl
set_option maxRecDepth 100000 in
theorem kw_wsL_law0_r16 : ∀ w ∈ wsL_law0_r16, w ∈ lw_tbl := mem_pl [683, 685, 12, 686, 687, 689, 13, 690, 349, 353, 356, 682, 694, 695, 697, 15, 698, 702, 704, 16, 705, 291, 338, 706] rfl
set_option maxRecDepth 100000 in
theorem kw_wsL_law0_r17 : ∀ w ∈ wsL_law0_r17, w ∈ lw_tbl := mem_pl [708, 17, 709, 710, 712, 18, 713, 342, 714, 716, 19, 717, 346, 1423, 1424, 1425, 1426, 1243, 1244, 1248, 1249, 1239, 1237, 1241] rfl
set_option maxRecDepth 100000 in
theorem kw_wsL_law0_r18 : ∀ w ∈ wsL_law0_r18, w ∈ lw_tbl := mem_pl [1242, 1246, 1250, 1236, 1238, 1255, 1427, 1429, 48, 1430, 1245, 1247, 1431, 1433, 49, 1434, 1435, 1436, 1437, 1438, 1440, 50, 1441, 1443] rfl
set_option maxRecDepth 100000 in
theorem kw_wsL_law0_r19 : ∀ w ∈ wsL_law0_r19, w ∈ lw_tbl := mem_pl [1444, 1445, 1446, 1447, 1448, 1450, 51, 1451, 1452, 1454, 52, 1455, 1456, 1458, 53, 1459, 1460, 1462, 54, 1463, 1464, 1466, 55, 1467] rfl
set_option maxRecDepth 100000 in
theorem kw_wsL_law0_r20 : ∀ w ∈ wsL_law0_r20, w ∈ lw_tbl := mem_pl [1468, 1470, 56, 1471, 1253, 1254, 1472, 1474, 57, 1475, 1476, 1478, 58, 1479, 1480, 1482, 59, 1483, 1484, 1486, 60, 1487, 1488, 1490] rfl
set_option maxRecDepth 100000 in
theorem kw_wsL_law0_r21 : ∀ w ∈ wsL_law0_r21, w ∈ lw_tbl := mem_pl [61, 1491, 1492, 1493, 1494, 1495, 1497, 62, 1498, 1499, 1501, 63, 1502, 1503, 1505, 64, 1506, 719, 720, 721, 722, 282, 284, 1507] rfl
set_option maxRecDepth 100000 in
theorem kw_wsL_law0_r22 : ∀ w ∈ wsL_law0_r22, w ∈ lw_tbl := mem_pl [1508, 1509, 1510, 723, 724, 725, 726, 206, 379, 480, 727, 1511, 1512, 1513, 1514, 728, 729, 730, 731, 1515, 1516, 1517, 1518, 1259] rfl
set_option maxRecDepth 100000 in
theorem kw_wsL_law0_r23 : ∀ w ∈ wsL_law0_r23, w ∈ lw_tbl := mem_pl [732, 733, 734, 735, 736, 737, 738, 739, 740, 741, 742, 743, 744, 745, 746, 1519, 1520, 1521, 1522, 1523, 1525, 65, 1526, 1527] rfl
set_option maxRecDepth 100000 in
theorem kw_wsL_law0_r24 : ∀ w ∈ wsL_law0_r24, w ∈ lw_tbl := mem_pl [1529, 66, 1530, 747, 748, 749, 750, 248, 751, 752, 753, 1531, 1532, 1533, 1534, 754, 755, 756, 757, 758, 759, 760, 761, 762] rfl
set_option maxRecDepth 100000 in
theorem kw_wsL_law0_r25 : ∀ w ∈ wsL_law0_r25, w ∈ lw_tbl := mem_pl [763, 764, 203, 1535, 1536, 1537, 1538, 1539, 1541, 67, 1542, 765, 766, 767, 768, 385, 769, 770, 771, 772, 773, 774, 775, 378] rfl
set_option maxRecDepth 100000 in
theorem kw_wsL_law0_r26 : ∀ w ∈ wsL_law0_r26, w ∈ lw_tbl := mem_pl [1543, 1544, 1545, 1546, 1547, 1548, 1549, 1550, 1552, 68, 1553, 776, 777, 778, 779, 780, 781, 782, 783, 1554, 1555, 1556, 1557, 784] rfl
