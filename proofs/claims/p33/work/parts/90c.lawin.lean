set_option maxRecDepth 100000 in
theorem in_wsL_law0_r13 : GoodIn lw_tbl wsL_law0_r13 := goodIn_p _ [536, 543, 547, 552, 555] (by decide +kernel) (by decide +kernel)
set_option maxRecDepth 100000 in
theorem in_wsL_law0_r14 : GoodIn lw_tbl wsL_law0_r14 := goodIn_p _ [558, 564, 571, 454, 577] (by decide +kernel) (by decide +kernel)
set_option maxRecDepth 100000 in
theorem in_wsL_law0_r15 : GoodIn lw_tbl wsL_law0_r15 := goodIn_p _ [584, 581, 588, 592, 597, 603] (by decide +kernel) (by decide +kernel)
set_option maxRecDepth 100000 in
theorem in_wsL_law0_r16 : GoodIn lw_tbl wsL_law0_r16 := goodIn_p _ [607, 611, 618, 623, 475] (by decide +kernel) (by decide +kernel)
set_option maxRecDepth 100000 in
theorem in_wsL_law0_r17 : GoodIn lw_tbl wsL_law0_r17 := goodIn_p _ [481, 427, 431, 451, 881] rfl (by decide +kernel)
set_option maxRecDepth 100000 in
theorem in_wsL_law0_r18 : GoodIn lw_tbl wsL_law0_r18 := goodIn_p _ [885, 889, 894, 898, 902] (by decide +kernel) (by decide +kernel)
