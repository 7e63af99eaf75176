set_option maxRecDepth 20000 in
theorem in_wsL_law0_r27 : GoodIn lw_tbl wsL_law0_r27 := goodIn_p _ [967, 971, 977, 1396, 1400] (by decide +kernel) (by decide +kernel)
set_option maxRecDepth 20000 in
theorem in_wsL_law0_r28 : GoodIn lw_tbl wsL_law0_r28 := goodIn_p _ [1404, 553, 565] (by decide +kernel) (by decide +kernel)
set_option maxRecDepth 20000 in
theorem in_wsL_law0_r29 : GoodIn lw_tbl wsL_law0_r29 := goodIn_p _ [574, 578, 582, 590] (by decide +kernel) (by decide +kernel)
set_option maxRecDepth 20000 in
theorem in_wsL_law0_r30 : GoodIn lw_tbl wsL_law0_r30 := goodIn_p _ [596, 600, 604, 1408, 1412] (by decide +kernel) (by decide +kernel)
set_option maxRecDepth 20000 in
theorem in_wsL_law0_r31 : GoodIn lw_tbl wsL_law0_r31 := goodIn_p _ [1416, 1420, 1424, 1428, 1432] (by decide +kernel) (by decide +kernel)
set_option maxRecDepth 20000 in
theorem in_wsL_law0_r32 : GoodIn lw_tbl wsL_law0_r32 := goodIn_p _ [992, 680, 684, 1436, 1440] (by decide +kernel) (by decide +kernel)
set_option maxRecDepth 20000 in
theorem in_wsL_law0_r33 : GoodIn lw_tbl wsL_law0_r33 := goodIn_p _ [1000, 1444, 693, 1448] (by decide +kernel) (by decide +kernel)
set_option maxRecDepth 20000 in
theorem in_wsL_law0_r34 : GoodIn lw_tbl wsL_law0_r34 := goodIn_p _ [1012, 1452, 1020, 1456, 1028] (by decide +kernel) (by decide +kernel)
set_option maxRecDepth 20000 in
theorem in_wsL_law0_r35 : GoodIn lw_tbl wsL_law0_r35 := goodIn_p _ [1460, 1464, 1037, 1468] (by decide +kernel) (by decide +kernel)
set_option maxRecDepth 20000 in
theorem in_wsL_law0_r36 : GoodIn lw_tbl wsL_law0_r36 := goodIn_p _ [462, 1472, 1045, 727, 1476] (by decide +kernel) (by decide +kernel)
set_option maxRecDepth 20000 in
theorem in_wsL_law0_r37 : GoodIn lw_tbl wsL_law0_r37 := goodIn_p _ [1052, 735, 1480, 1484, 1488] (by decide +kernel) (by decide +kernel)
set_option maxRecDepth 20000 in
theorem in_wsL_law0_r38 : GoodIn lw_tbl wsL_law0_r38 := goodIn_p _ [1061, 739, 743, 747, 751, 755] (by decide +kernel) (by decide +kernel)
set_option maxRecDepth 20000 in
theorem in_wsL_law0_r39 : GoodIn lw_tbl wsL_law0_r39 := goodIn_p _ [759, 1492, 1496, 1500, 1504] (by decide +kernel) (by decide +kernel)
set_option maxRecDepth 20000 in
theorem in_wsL_law0_r40 : GoodIn lw_tbl wsL_law0_r40 := goodIn_p _ [1069, 763, 767, 774, 778] (by decide +kernel) (by decide +kernel)
set_option maxRecDepth 20000 in
theorem in_wsL_law0_r41 : GoodIn lw_tbl wsL_law0_r41 := goodIn_p _ [1508, 1512, 1516, 857, 853] (by decide +kernel) (by decide +kernel)
set_option maxRecDepth 20000 in
theorem in_wsL_law0_r42 : GoodIn lw_tbl wsL_law0_r42 := goodIn_p _ [878, 1520, 1524, 1081, 1086, 1528] (by decide +kernel) (by decide +kernel)
set_option maxRecDepth 20000 in
theorem in_wsL_law0_r43 : GoodIn lw_tbl wsL_law0_r43 := goodIn_p _ [1532, 1536, 494, 498, 520, 502] (by decide +kernel) (by decide +kernel)
set_option maxRecDepth 20000 in
theorem in_wsL_law0_r44 : GoodIn lw_tbl wsL_law0_r44 := goodIn_p _ [509, 516, 1540, 1544, 1548] (by decide +kernel) (by decide +kernel)
set_option maxRecDepth 20000 in
theorem in_wsL_law0_r45 : GoodIn lw_tbl wsL_law0_r45 := goodIn_p _ [1552, 1556, 524, 528, 1560, 1564] (by decide +kernel) (by decide +kernel)
set_option maxRecDepth 20000 in
theorem in_wsL_law0_r46 : GoodIn lw_tbl wsL_law0_r46 := goodIn_p _ [532, 536, 540, 544, 1568] (by decide +kernel) (by decide +kernel)
set_option maxRecDepth 20000 in
theorem in_wsL_law0_r47 : GoodIn lw_tbl wsL_law0_r47 := goodIn_p _ [1093, 1572, 1101, 1106, 1110] (by decide +kernel) (by decide +kernel)
set_option maxRecDepth 20000 in
theorem in_wsL_law0_r48 : GoodIn lw_tbl wsL_law0_r48 := goodIn_p _ [1576, 1580, 1584, 1118, 1123] (by decide +kernel) (by decide +kernel)
set_option maxRecDepth 20000 in
theorem in_wsL_law0_r49 : GoodIn lw_tbl wsL_law0_r49 := goodIn_p _ [1588, 1596, 548] (by decide +kernel) (by decide +kernel)
set_option maxRecDepth 20000 in
theorem in_wsL_law0_r50 : GoodIn lw_tbl wsL_law0_r50 := goodIn_p _ [675, 689, 731, 1600] (by decide +kernel) (by decide +kernel)
set_option maxRecDepth 20000 in
theorem in_wsL_law0_r51 : GoodIn lw_tbl wsL_law0_r51 := goodIn_p _ [1605, 1610] (by decide +kernel) (by decide +kernel)
