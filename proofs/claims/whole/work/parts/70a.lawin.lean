set_option maxRecDepth 20000 in
theorem in_wsL_law0_r1 : GoodIn lw_tbl wsL_law0_r1 := goodIn_p _ [126, 129] (by decide +kernel) (by decide +kernel)
set_option maxRecDepth 20000 in
theorem in_wsL_law0_r2 : GoodIn lw_tbl wsL_law0_r2 := goodIn_p _ [134] (by decide +kernel) (by decide +kernel)
set_option maxRecDepth 20000 in
theorem in_wsL_law0_r3 : GoodIn lw_tbl wsL_law0_r3 := goodIn_p _ [175, 203] (by decide +kernel) (by decide +kernel)
set_option maxRecDepth 20000 in
theorem in_wsL_law0_r4 : GoodIn lw_tbl wsL_law0_r4 := goodIn_p _ [259, 290, 312, 325] (by decide +kernel) (by decide +kernel)
set_option maxRecDepth 20000 in
theorem in_wsL_law0_r5 : GoodIn lw_tbl wsL_law0_r5 := goodIn_p _ [341, 345, 348, 351] (by decide +kernel) (by decide +kernel)
set_option maxRecDepth 20000 in
theorem in_wsL_law0_r6 : GoodIn lw_tbl wsL_law0_r6 := goodIn_p _ [355, 359, 363, 366, 369, 373, 376] (by decide +kernel) (by decide +kernel)
set_option maxRecDepth 20000 in
theorem in_wsL_law0_r7 : GoodIn lw_tbl wsL_law0_r7 := goodIn_p _ [380, 385, 389, 395] (by decide +kernel) (by decide +kernel)
set_option maxRecDepth 20000 in
theorem in_wsL_law0_r8 : GoodIn lw_tbl wsL_law0_r8 := goodIn_p _ [399, 1133] (by decide +kernel) (by decide +kernel)
set_option maxRecDepth 20000 in
theorem in_wsL_law0_r9 : GoodIn lw_tbl wsL_law0_r9 := goodIn_p _ [1138, 887, 1223] (by decide +kernel) (by decide +kernel)
set_option maxRecDepth 20000 in
theorem in_wsL_law0_r10 : GoodIn lw_tbl wsL_law0_r10 := goodIn_p _ [1226, 1230, 1234, 1219, 897] (by decide +kernel) (by decide +kernel)
set_option maxRecDepth 20000 in
theorem in_wsL_law0_r11 : GoodIn lw_tbl wsL_law0_r11 := goodIn_p _ [697, 717, 505, 902] (by decide +kernel) (by decide +kernel)
set_option maxRecDepth 20000 in
theorem in_wsL_law0_r12 : GoodIn lw_tbl wsL_law0_r12 := goodIn_p _ [908, 912, 916, 474, 820, 1238] (by decide +kernel) (by decide +kernel)
set_option maxRecDepth 20000 in
theorem in_wsL_law0_r13 : GoodIn lw_tbl wsL_law0_r13 := goodIn_p _ [1242, 1245, 1249, 1253, 1257, 1261] (by decide +kernel) (by decide +kernel)
set_option maxRecDepth 20000 in
theorem in_wsL_law0_r14 : GoodIn lw_tbl wsL_law0_r14 := goodIn_p _ [1265, 1269, 1273, 1277, 1281] (by decide +kernel) (by decide +kernel)
set_option maxRecDepth 20000 in
theorem in_wsL_law0_r15 : GoodIn lw_tbl wsL_law0_r15 := goodIn_p _ [924, 929, 722, 934, 1285] (by decide +kernel) (by decide +kernel)
set_option maxRecDepth 20000 in
theorem in_wsL_law0_r16 : GoodIn lw_tbl wsL_law0_r16 := goodIn_p _ [942, 945, 787, 485, 478] (by decide +kernel) (by decide +kernel)
set_option maxRecDepth 20000 in
theorem in_wsL_law0_r17 : GoodIn lw_tbl wsL_law0_r17 := goodIn_p _ [793, 797, 770, 803, 488] (by decide +kernel) (by decide +kernel)
set_option maxRecDepth 20000 in
theorem in_wsL_law0_r18 : GoodIn lw_tbl wsL_law0_r18 := goodIn_p _ [808, 815, 824, 781, 828] (by decide +kernel) (by decide +kernel)
set_option maxRecDepth 20000 in
theorem in_wsL_law0_r19 : GoodIn lw_tbl wsL_law0_r19 := goodIn_p _ [561, 470, 466, 836, 557] (by decide +kernel) (by decide +kernel)
set_option maxRecDepth 20000 in
theorem in_wsL_law0_r20 : GoodIn lw_tbl wsL_law0_r20 := goodIn_p _ [569, 844, 849, 1290, 1293, 1296, 1300] (by decide +kernel) (by decide +kernel)
set_option maxRecDepth 20000 in
theorem in_wsL_law0_r21 : GoodIn lw_tbl wsL_law0_r21 := goodIn_p _ [1304, 1308, 1312, 1316, 1320, 1324] (by decide +kernel) (by decide +kernel)
set_option maxRecDepth 20000 in
theorem in_wsL_law0_r22 : GoodIn lw_tbl wsL_law0_r22 := goodIn_p _ [1328, 1332, 1336, 1340, 1344, 1348] (by decide +kernel) (by decide +kernel)
set_option maxRecDepth 20000 in
theorem in_wsL_law0_r23 : GoodIn lw_tbl wsL_law0_r23 := goodIn_p _ [1352, 1356, 1360, 1364, 1368] (by decide +kernel) (by decide +kernel)
set_option maxRecDepth 20000 in
theorem in_wsL_law0_r24 : GoodIn lw_tbl wsL_law0_r24 := goodIn_p _ [953, 959, 1372, 428, 1376] (by decide +kernel) (by decide +kernel)
set_option maxRecDepth 20000 in
theorem in_wsL_law0_r25 : GoodIn lw_tbl wsL_law0_r25 := goodIn_p _ [432, 436, 440, 444, 449] (by decide +kernel) (by decide +kernel)
set_option maxRecDepth 20000 in
theorem in_wsL_law0_r26 : GoodIn lw_tbl wsL_law0_r26 := goodIn_p _ [453, 458, 1380, 1384, 1388, 1392] (by decide +kernel) (by decide +kernel)
