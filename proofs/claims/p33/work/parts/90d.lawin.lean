set_option maxRecDepth 20000 in
theorem in_wsL_law0_r19 : GoodIn lw_tbl wsL_law0_r19 := goodIn_p _ [670, 677, 682, 686] (by decide +kernel) (by decide +kernel)
set_option maxRecDepth 20000 in
theorem in_wsL_law0_r20 : GoodIn lw_tbl wsL_law0_r20 := goodIn_p _ [690, 698, 704, 708] (by decide +kernel) (by decide +kernel)
set_option maxRecDepth 20000 in
theorem in_wsL_law0_r21 : GoodIn lw_tbl wsL_law0_r21 := goodIn_p _ [712, 908, 913, 918, 922] (by decide +kernel) (by decide +kernel)
set_option maxRecDepth 20000 in
theorem in_wsL_law0_r22 : GoodIn lw_tbl wsL_law0_r22 := goodIn_p _ [927, 932, 936, 940, 945, 950] (by decide +kernel) (by decide +kernel)
set_option maxRecDepth 20000 in
theorem in_wsL_law0_r23 : GoodIn lw_tbl wsL_law0_r23 := goodIn_p _ [959, 966, 970, 975] (by decide +kernel) (by decide +kernel)
set_option maxRecDepth 20000 in
theorem in_wsL_law0_r24 : GoodIn lw_tbl wsL_law0_r24 := goodIn_p _ [978, 982, 987, 660, 663, 666, 717] (by decide +kernel) (by decide +kernel)
