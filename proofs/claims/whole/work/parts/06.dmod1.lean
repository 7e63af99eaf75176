set_option maxRecDepth 20000 in
theorem ggX9_init_X9_clear : GoodIn wsX9_init wsX9_clear := goodIn_r _ [25, 4, 5, 26, 27, 28, 9, 29, 30, 31, 32, 33, 34, 35, 36, 37, 38, 39, 40, 41, 42, 43, 44, 45, 46, 47, 48, 49, 50, 51, 52, 53] (by decide +kernel) (by decide +kernel)
set_option maxRecDepth 20000 in
theorem gX9_init_X9_clear : GoodIn wsX9_init (wsV RX9 55 RX9 yX9_clear wsX9_clear) := goodIn_app (goodIn_of _ (by decide +kernel)) ggX9_init_X9_clear
theorem dX9_init_0 : decode cX9_init 0 = .ok (.aload_n 0, 1) := by decide +kernel
theorem dX9_init_1 : decode cX9_init 1 = .ok (.invokespecial 1, 3) := by decide +kernel
theorem dX9_init_4 : decode cX9_init 4 = .ok (.aload_n 0, 1) := by decide +kernel
theorem dX9_init_5 : decode cX9_init 5 = .ok (.iconst 2, 1) := by decide +kernel
theorem dX9_init_6 : decode cX9_init 6 = .ok (.putfield 7, 3) := by decide +kernel
theorem dX9_init_9 : decode cX9_init 9 = .ok (.aload_n 0, 1) := by decide +kernel
theorem dX9_init_10 : decode cX9_init 10 = .ok (.iconst 2, 1) := by decide +kernel
theorem dX9_init_11 : decode cX9_init 11 = .ok (.putfield 13, 3) := by decide +kernel
theorem dX9_init_14 : decode cX9_init 14 = .ok (.aload_n 0, 1) := by decide +kernel
theorem dX9_init_15 : decode cX9_init 15 = .ok (.bipush 40, 2) := by decide +kernel
theorem dX9_init_17 : decode cX9_init 17 = .ok (.newarray .int, 2) := by decide +kernel
theorem dX9_init_19 : decode cX9_init 19 = .ok (.putfield 16, 3) := by decide +kernel
theorem dX9_init_22 : decode cX9_init 22 = .ok (.aload_n 0, 1) := by decide +kernel
theorem dX9_init_23 : decode cX9_init 23 = .ok (.bipush 40, 2) := by decide +kernel
theorem dX9_init_25 : decode cX9_init 25 = .ok (.newarray .int, 2) := by decide +kernel
theorem dX9_init_27 : decode cX9_init 27 = .ok (.putfield 20, 3) := by decide +kernel
theorem dX9_init_30 : decode cX9_init 30 = .ok (.aload_n 0, 1) := by decide +kernel
theorem dX9_init_31 : decode cX9_init 31 = .ok (.bipush 16, 2) := by decide +kernel
theorem dX9_init_33 : decode cX9_init 33 = .ok (.newarray .int, 2) := by decide +kernel
theorem dX9_init_35 : decode cX9_init 35 = .ok (.putfield 23, 3) := by decide +kernel
theorem dX9_init_38 : decode cX9_init 38 = .ok (.aload_n 0, 1) := by decide +kernel
theorem dX9_init_39 : decode cX9_init 39 = .ok (.bipush 60, 2) := by decide +kernel
theorem dX9_init_41 : decode cX9_init 41 = .ok (.newarray .int, 2) := by decide +kernel
theorem dX9_init_43 : decode cX9_init 43 = .ok (.putfield 26, 3) := by decide +kernel
theorem dX9_init_46 : decode cX9_init 46 = .ok (.aload_n 0, 1) := by decide +kernel
theorem dX9_init_47 : decode cX9_init 47 = .ok (.bipush 16, 2) := by decide +kernel
theorem dX9_init_49 : decode cX9_init 49 = .ok (.newarray .int, 2) := by decide +kernel
theorem dX9_init_51 : decode cX9_init 51 = .ok (.putfield 29, 3) := by decide +kernel
theorem dX9_init_54 : decode cX9_init 54 = .ok (.aload_n 0, 1) := by decide +kernel
theorem dX9_init_55 : decode cX9_init 55 = .ok (.bipush 16, 2) := by decide +kernel
theorem dX9_init_57 : decode cX9_init 57 = .ok (.newarray .int, 2) := by decide +kernel
theorem dX9_init_59 : decode cX9_init 59 = .ok (.putfield 32, 3) := by decide +kernel
theorem dX9_init_62 : decode cX9_init 62 = .ok (.aload_n 0, 1) := by decide +kernel
theorem dX9_init_63 : decode cX9_init 63 = .ok (.bipush 16, 2) := by decide +kernel
theorem dX9_init_65 : decode cX9_init 65 = .ok (.newarray .boolean, 2) := by decide +kernel
theorem dX9_init_67 : decode cX9_init 67 = .ok (.putfield 35, 3) := by decide +kernel
theorem dX9_init_70 : decode cX9_init 70 = .ok (.aload_n 0, 1) := by decide +kernel
theorem dX9_init_71 : decode cX9_init 71 = .ok (.bipush 16, 2) := by decide +kernel
theorem dX9_init_73 : decode cX9_init 73 = .ok (.newarray .boolean, 2) := by decide +kernel
theorem dX9_init_75 : decode cX9_init 75 = .ok (.putfield 39, 3) := by decide +kernel
theorem dX9_init_78 : decode cX9_init 78 = .ok (.aload_n 0, 1) := by decide +kernel
theorem dX9_init_79 : decode cX9_init 79 = .ok (.sipush 1024, 3) := by decide +kernel
theorem dX9_init_82 : decode cX9_init 82 = .ok (.newarray .int, 2) := by decide +kernel
theorem dX9_init_84 : decode cX9_init 84 = .ok (.putfield 42, 3) := by decide +kernel
theorem dX9_init_87 : decode cX9_init 87 = .ok (.aload_n 0, 1) := by decide +kernel
theorem dX9_init_88 : decode cX9_init 88 = .ok (.bipush 12, 2) := by decide +kernel
theorem dX9_init_90 : decode cX9_init 90 = .ok (.newarray .int, 2) := by decide +kernel
theorem dX9_init_92 : decode cX9_init 92 = .ok (.putfield 45, 3) := by decide +kernel
theorem dX9_init_95 : decode cX9_init 95 = .ok (.aload_n 0, 1) := by decide +kernel
theorem dX9_init_96 : decode cX9_init 96 = .ok (.sipush 4096, 3) := by decide +kernel
theorem dX9_init_99 : decode cX9_init 99 = .ok (.newarray .int, 2) := by decide +kernel
theorem dX9_init_101 : decode cX9_init 101 = .ok (.putfield 48, 3) := by decide +kernel
theorem dX9_init_104 : decode cX9_init 104 = .ok (.aload_n 0, 1) := by decide +kernel
theorem dX9_init_105 : decode cX9_init 105 = .ok (.bipush 40, 2) := by decide +kernel
theorem dX9_init_107 : decode cX9_init 107 = .ok (.newarray .long, 2) := by decide +kernel
theorem dX9_init_109 : decode cX9_init 109 = .ok (.putfield 51, 3) := by decide +kernel
theorem dX9_init_112 : decode cX9_init 112 = .ok (.aload_n 0, 1) := by decide +kernel
theorem dX9_init_113 : decode cX9_init 113 = .ok (.iconst 2, 1) := by decide +kernel
theorem dX9_init_114 : decode cX9_init 114 = .ok (.iconst 2, 1) := by decide +kernel
theorem dX9_init_115 : decode cX9_init 115 = .ok (.invokevirtual 55, 3) := by decide +kernel
theorem dX9_init_118 : decode cX9_init 118 = .ok (.return_, 1) := by decide +kernel
theorem dX9_thrown_0 : decode cX9_thrown 0 = .ok (.aload_n 0, 1) := by decide +kernel
theorem dX9_thrown_1 : decode cX9_thrown 1 = .ok (.getfield 59, 3) := by decide +kernel
theorem dX9_thrown_4 : decode cX9_thrown 4 = .ok (.ireturn, 1) := by decide +kernel
theorem dX9_within_0 : decode cX9_within 0 = .ok (.iload_n 0, 1) := by decide +kernel
theorem dX9_within_1 : decode cX9_within 1 = .ok (.iload_n 1, 1) := by decide +kernel
theorem dX9_within_2 : decode cX9_within 2 = .ok (.if_icmp .lt 12, 3) := by decide +kernel
theorem dX9_within_5 : decode cX9_within 5 = .ok (.iload_n 0, 1) := by decide +kernel
theorem dX9_within_6 : decode cX9_within 6 = .ok (.iload_n 2, 1) := by decide +kernel
theorem dX9_within_7 : decode cX9_within 7 = .ok (.if_icmp .gt 7, 3) := by decide +kernel
theorem dX9_within_10 : decode cX9_within 10 = .ok (.iconst 1, 1) := by decide +kernel
theorem dX9_within_11 : decode cX9_within 11 = .ok (.goto 4, 3) := by decide +kernel
theorem dX9_within_14 : decode cX9_within 14 = .ok (.iconst 0, 1) := by decide +kernel
theorem dX9_within_15 : decode cX9_within 15 = .ok (.ireturn, 1) := by decide +kernel
theorem dX9_has_0 : decode cX9_has 0 = .ok (.lload_n 0, 1) := by decide +kernel
theorem dX9_has_1 : decode cX9_has 1 = .ok (.iload_n 2, 1) := by decide +kernel
theorem dX9_has_2 : decode cX9_has 2 = .ok (.lshr, 1) := by decide +kernel
theorem dX9_has_3 : decode cX9_has 3 = .ok (.lconst 1, 1) := by decide +kernel
theorem dX9_has_4 : decode cX9_has 4 = .ok (.land, 1) := by decide +kernel
theorem dX9_has_5 : decode cX9_has 5 = .ok (.lconst 1, 1) := by decide +kernel
theorem dX9_has_6 : decode cX9_has 6 = .ok (.lcmp, 1) := by decide +kernel
theorem dX9_has_7 : decode cX9_has 7 = .ok (.ifCond .ne 7, 3) := by decide +kernel
theorem dX9_has_10 : decode cX9_has 10 = .ok (.iconst 1, 1) := by decide +kernel
theorem dX9_has_11 : decode cX9_has 11 = .ok (.goto 4, 3) := by decide +kernel
theorem dX9_has_14 : decode cX9_has 14 = .ok (.iconst 0, 1) := by decide +kernel
theorem dX9_has_15 : decode cX9_has 15 = .ok (.ireturn, 1) := by decide +kernel
set_option maxRecDepth 20000 in
theorem ggX9_size_X9_has : GoodIn wsX9_size wsX9_has := goodIn_r _ [4] (by decide +kernel) (by decide +kernel)
set_option maxRecDepth 20000 in
theorem gX9_size_X9_has : GoodIn wsX9_size (va_wsS RX9 62 yX9_has wsX9_has) := goodIn_app (goodIn_of _ (by decide +kernel)) ggX9_size_X9_has
theorem dX9_size_0 : decode cX9_size 0 = .ok (.iconst 0, 1) := by decide +kernel
theorem dX9_size_1 : decode cX9_size 1 = .ok (.istore_n 2, 1) := by decide +kernel
theorem dX9_size_2 : decode cX9_size 2 = .ok (.iconst 0, 1) := by decide +kernel
theorem dX9_size_3 : decode cX9_size 3 = .ok (.istore_n 3, 1) := by decide +kernel
theorem dX9_size_4 : decode cX9_size 4 = .ok (.iload_n 3, 1) := by decide +kernel
theorem dX9_size_5 : decode cX9_size 5 = .ok (.bipush 40, 2) := by decide +kernel
theorem dX9_size_7 : decode cX9_size 7 = .ok (.if_icmp .ge 25, 3) := by decide +kernel
theorem dX9_size_10 : decode cX9_size 10 = .ok (.iload_n 2, 1) := by decide +kernel
theorem dX9_size_11 : decode cX9_size 11 = .ok (.lload_n 0, 1) := by decide +kernel
theorem dX9_size_12 : decode cX9_size 12 = .ok (.iload_n 3, 1) := by decide +kernel
theorem dX9_size_13 : decode cX9_size 13 = .ok (.invokestatic 62, 3) := by decide +kernel
theorem dX9_size_16 : decode cX9_size 16 = .ok (.ifCond .eq 7, 3) := by decide +kernel
theorem dX9_size_19 : decode cX9_size 19 = .ok (.iconst 1, 1) := by decide +kernel
theorem dX9_size_20 : decode cX9_size 20 = .ok (.goto 4, 3) := by decide +kernel
theorem dX9_size_23 : decode cX9_size 23 = .ok (.iconst 0, 1) := by decide +kernel
theorem dX9_size_24 : decode cX9_size 24 = .ok (.iadd, 1) := by decide +kernel
theorem dX9_size_25 : decode cX9_size 25 = .ok (.istore_n 2, 1) := by decide +kernel
theorem dX9_size_26 : decode cX9_size 26 = .ok (.iinc 3 1, 3) := by decide +kernel
theorem dX9_size_29 : decode cX9_size 29 = .ok (.goto (-25), 3) := by decide +kernel
theorem dX9_size_32 : decode cX9_size 32 = .ok (.iload_n 2, 1) := by decide +kernel
theorem dX9_size_33 : decode cX9_size 33 = .ok (.ireturn, 1) := by decide +kernel
theorem dX9_boxes_0 : decode cX9_boxes 0 = .ok (.aload_n 0, 1) := by decide +kernel
theorem dX9_boxes_1 : decode cX9_boxes 1 = .ok (.getfield 7, 3) := by decide +kernel
theorem dX9_boxes_4 : decode cX9_boxes 4 = .ok (.aload_n 0, 1) := by decide +kernel
theorem dX9_boxes_5 : decode cX9_boxes 5 = .ok (.getfield 13, 3) := by decide +kernel
theorem dX9_boxes_8 : decode cX9_boxes 8 = .ok (.imul, 1) := by decide +kernel
theorem dX9_boxes_9 : decode cX9_boxes 9 = .ok (.ireturn, 1) := by decide +kernel
theorem dX9_level_0 : decode cX9_level 0 = .ok (.aload_n 0, 1) := by decide +kernel
theorem dX9_level_1 : decode cX9_level 1 = .ok (.getfield 13, 3) := by decide +kernel
theorem dX9_level_4 : decode cX9_level 4 = .ok (.iconst 1, 1) := by decide +kernel
theorem dX9_level_5 : decode cX9_level 5 = .ok (.iadd, 1) := by decide +kernel
theorem dX9_level_6 : decode cX9_level 6 = .ok (.aload_n 0, 1) := by decide +kernel
theorem dX9_level_7 : decode cX9_level 7 = .ok (.getfield 7, 3) := by decide +kernel
theorem dX9_level_10 : decode cX9_level 10 = .ok (.imul, 1) := by decide +kernel
theorem dX9_level_11 : decode cX9_level 11 = .ok (.ireturn, 1) := by decide +kernel
set_option maxRecDepth 20000 in
theorem ggX9_all_X9_level : GoodIn wsX9_all wsX9_level := goodIn_r _ [7, 1, 2, 8, 9, 10, 11, 12, 13, 14, 15, 16, 17, 18, 19, 20, 21, 22, 23, 24, 25, 26, 27, 28, 29, 30, 31, 32] (by decide +kernel) (by decide +kernel)
set_option maxRecDepth 20000 in
theorem gX9_all_X9_level : GoodIn wsX9_all (wsV RX9 66 RX9 yX9_level wsX9_level) := goodIn_app (goodIn_of _ (by decide +kernel)) ggX9_all_X9_level
theorem dX9_all_0 : decode cX9_all 0 = .ok (.aload_n 0, 1) := by decide +kernel
theorem dX9_all_1 : decode cX9_all 1 = .ok (.invokevirtual 66, 3) := by decide +kernel
theorem dX9_all_4 : decode cX9_all 4 = .ok (.aload_n 0, 1) := by decide +kernel
theorem dX9_all_5 : decode cX9_all 5 = .ok (.getfield 13, 3) := by decide +kernel
theorem dX9_all_8 : decode cX9_all 8 = .ok (.aload_n 0, 1) := by decide +kernel
theorem dX9_all_9 : decode cX9_all 9 = .ok (.getfield 7, 3) := by decide +kernel
theorem dX9_all_12 : decode cX9_all 12 = .ok (.iconst 1, 1) := by decide +kernel
theorem dX9_all_13 : decode cX9_all 13 = .ok (.iadd, 1) := by decide +kernel
theorem dX9_all_14 : decode cX9_all 14 = .ok (.imul, 1) := by decide +kernel
theorem dX9_all_15 : decode cX9_all 15 = .ok (.iadd, 1) := by decide +kernel
theorem dX9_all_16 : decode cX9_all 16 = .ok (.ireturn, 1) := by decide +kernel
set_option maxRecDepth 20000 in
theorem ggX9_isLine_X9_all : GoodIn wsX9_isLine wsX9_all := goodIn_r _ [5, 6, 7, 8, 9, 10, 4, 11, 15, 16, 17, 18, 19, 20, 21, 22, 23, 24, 25, 26, 27, 28, 29, 30, 31, 32, 33, 34, 35, 36, 37, 38, 39] (by decide +kernel) (by decide +kernel)
set_option maxRecDepth 20000 in
theorem gX9_isLine_X9_all : GoodIn wsX9_isLine (wsV RX9 70 RX9 yX9_all wsX9_all) := goodIn_app (goodIn_of _ (by decide +kernel)) ggX9_isLine_X9_all
set_option maxRecDepth 20000 in
theorem ggX9_isLine_X9_within : GoodIn wsX9_isLine wsX9_within := goodIn_r _ [14] (by decide +kernel) (by decide +kernel)
set_option maxRecDepth 20000 in
theorem gX9_isLine_X9_within : GoodIn wsX9_isLine (va_wsS RX9 73 yX9_within wsX9_within) := goodIn_app (goodIn_of _ (by decide +kernel)) ggX9_isLine_X9_within
theorem dX9_isLine_0 : decode cX9_isLine 0 = .ok (.iload_n 1, 1) := by decide +kernel
theorem dX9_isLine_1 : decode cX9_isLine 1 = .ok (.iconst 0, 1) := by decide +kernel
theorem dX9_isLine_2 : decode cX9_isLine 2 = .ok (.aload_n 0, 1) := by decide +kernel
theorem dX9_isLine_3 : decode cX9_isLine 3 = .ok (.invokevirtual 70, 3) := by decide +kernel
theorem dX9_isLine_6 : decode cX9_isLine 6 = .ok (.iconst 1, 1) := by decide +kernel
theorem dX9_isLine_7 : decode cX9_isLine 7 = .ok (.isub, 1) := by decide +kernel
theorem dX9_isLine_8 : decode cX9_isLine 8 = .ok (.invokestatic 73, 3) := by decide +kernel
theorem dX9_isLine_11 : decode cX9_isLine 11 = .ok (.ireturn, 1) := by decide +kernel
set_option maxRecDepth 20000 in
theorem ggX9_isBox_X9_boxes : GoodIn wsX9_isBox wsX9_boxes := goodIn_r _ [5, 6, 7, 11, 12, 13, 14, 15, 16, 17, 18, 19, 20, 21, 22, 23, 24, 25, 26, 27, 28, 29, 30, 31, 32, 33, 34, 35] (by decide +kernel) (by decide +kernel)
set_option maxRecDepth 20000 in
theorem gX9_isBox_X9_boxes : GoodIn wsX9_isBox (wsV RX9 77 RX9 yX9_boxes wsX9_boxes) := goodIn_app (goodIn_of _ (by decide +kernel)) ggX9_isBox_X9_boxes
set_option maxRecDepth 20000 in
theorem ggX9_isBox_X9_within : GoodIn wsX9_isBox wsX9_within := goodIn_r _ [10] (by decide +kernel) (by decide +kernel)
set_option maxRecDepth 20000 in
theorem gX9_isBox_X9_within : GoodIn wsX9_isBox (va_wsS RX9 73 yX9_within wsX9_within) := goodIn_app (goodIn_of _ (by decide +kernel)) ggX9_isBox_X9_within
theorem dX9_isBox_0 : decode cX9_isBox 0 = .ok (.iload_n 1, 1) := by decide +kernel
theorem dX9_isBox_1 : decode cX9_isBox 1 = .ok (.iconst 0, 1) := by decide +kernel
theorem dX9_isBox_2 : decode cX9_isBox 2 = .ok (.aload_n 0, 1) := by decide +kernel
theorem dX9_isBox_3 : decode cX9_isBox 3 = .ok (.invokevirtual 77, 3) := by decide +kernel
theorem dX9_isBox_6 : decode cX9_isBox 6 = .ok (.iconst 1, 1) := by decide +kernel
theorem dX9_isBox_7 : decode cX9_isBox 7 = .ok (.isub, 1) := by decide +kernel
theorem dX9_isBox_8 : decode cX9_isBox 8 = .ok (.invokestatic 73, 3) := by decide +kernel
theorem dX9_isBox_11 : decode cX9_isBox 11 = .ok (.ireturn, 1) := by decide +kernel
set_option maxRecDepth 20000 in
theorem ggX9_numberOf_X9_level : GoodIn wsX9_numberOf wsX9_level := goodIn_r _ [6, 7, 1, 8, 9, 10, 11, 12, 13, 14, 15, 16, 17, 18, 19, 20, 21, 22, 23, 24, 25, 26, 27, 28, 29, 30, 31, 32] (by decide +kernel) (by decide +kernel)
set_option maxRecDepth 20000 in
theorem gX9_numberOf_X9_level : GoodIn wsX9_numberOf (wsV RX9 66 RX9 yX9_level wsX9_level) := goodIn_app (goodIn_of _ (by decide +kernel)) ggX9_numberOf_X9_level
theorem dX9_numberOf_0 : decode cX9_numberOf 0 = .ok (.iload_n 1, 1) := by decide +kernel
theorem dX9_numberOf_1 : decode cX9_numberOf 1 = .ok (.ifCond .eq 21, 3) := by decide +kernel
theorem dX9_numberOf_4 : decode cX9_numberOf 4 = .ok (.aload_n 0, 1) := by decide +kernel
theorem dX9_numberOf_5 : decode cX9_numberOf 5 = .ok (.invokevirtual 66, 3) := by decide +kernel
theorem dX9_numberOf_8 : decode cX9_numberOf 8 = .ok (.iload_n 3, 1) := by decide +kernel
theorem dX9_numberOf_9 : decode cX9_numberOf 9 = .ok (.aload_n 0, 1) := by decide +kernel
theorem dX9_numberOf_10 : decode cX9_numberOf 10 = .ok (.getfield 7, 3) := by decide +kernel
theorem dX9_numberOf_13 : decode cX9_numberOf 13 = .ok (.iconst 1, 1) := by decide +kernel
theorem dX9_numberOf_14 : decode cX9_numberOf 14 = .ok (.iadd, 1) := by decide +kernel
theorem dX9_numberOf_15 : decode cX9_numberOf 15 = .ok (.imul, 1) := by decide +kernel
theorem dX9_numberOf_16 : decode cX9_numberOf 16 = .ok (.iadd, 1) := by decide +kernel
theorem dX9_numberOf_17 : decode cX9_numberOf 17 = .ok (.iload_n 2, 1) := by decide +kernel
theorem dX9_numberOf_18 : decode cX9_numberOf 18 = .ok (.iadd, 1) := by decide +kernel
theorem dX9_numberOf_19 : decode cX9_numberOf 19 = .ok (.goto 11, 3) := by decide +kernel
theorem dX9_numberOf_22 : decode cX9_numberOf 22 = .ok (.iload_n 3, 1) := by decide +kernel
theorem dX9_numberOf_23 : decode cX9_numberOf 23 = .ok (.aload_n 0, 1) := by decide +kernel
theorem dX9_numberOf_24 : decode cX9_numberOf 24 = .ok (.getfield 7, 3) := by decide +kernel
theorem dX9_numberOf_27 : decode cX9_numberOf 27 = .ok (.imul, 1) := by decide +kernel
theorem dX9_numberOf_28 : decode cX9_numberOf 28 = .ok (.iload_n 2, 1) := by decide +kernel
theorem dX9_numberOf_29 : decode cX9_numberOf 29 = .ok (.iadd, 1) := by decide +kernel
theorem dX9_numberOf_30 : decode cX9_numberOf 30 = .ok (.ireturn, 1) := by decide +kernel
set_option maxRecDepth 20000 in
theorem ggX9_exists_X9_within : GoodIn wsX9_exists wsX9_within := goodIn_r _ [6] (by decide +kernel) (by decide +kernel)
set_option maxRecDepth 20000 in
theorem gX9_exists_X9_within : GoodIn wsX9_exists (va_wsS RX9 73 yX9_within wsX9_within) := goodIn_app (goodIn_of _ (by decide +kernel)) ggX9_exists_X9_within
theorem dX9_exists_0 : decode cX9_exists 0 = .ok (.iload_n 2, 1) := by decide +kernel
theorem dX9_exists_1 : decode cX9_exists 1 = .ok (.iconst 0, 1) := by decide +kernel
theorem dX9_exists_2 : decode cX9_exists 2 = .ok (.iload_n 1, 1) := by decide +kernel
theorem dX9_exists_3 : decode cX9_exists 3 = .ok (.ifCond .eq 10, 3) := by decide +kernel
theorem dX9_exists_6 : decode cX9_exists 6 = .ok (.aload_n 0, 1) := by decide +kernel
theorem dX9_exists_7 : decode cX9_exists 7 = .ok (.getfield 7, 3) := by decide +kernel
theorem dX9_exists_10 : decode cX9_exists 10 = .ok (.goto 9, 3) := by decide +kernel
theorem dX9_exists_13 : decode cX9_exists 13 = .ok (.aload_n 0, 1) := by decide +kernel
theorem dX9_exists_14 : decode cX9_exists 14 = .ok (.getfield 7, 3) := by decide +kernel
theorem dX9_exists_17 : decode cX9_exists 17 = .ok (.iconst 1, 1) := by decide +kernel
theorem dX9_exists_18 : decode cX9_exists 18 = .ok (.isub, 1) := by decide +kernel
theorem dX9_exists_19 : decode cX9_exists 19 = .ok (.invokestatic 73, 3) := by decide +kernel
theorem dX9_exists_22 : decode cX9_exists 22 = .ok (.ifCond .eq 32, 3) := by decide +kernel
theorem dX9_exists_25 : decode cX9_exists 25 = .ok (.iload_n 3, 1) := by decide +kernel
theorem dX9_exists_26 : decode cX9_exists 26 = .ok (.iconst 0, 1) := by decide +kernel
theorem dX9_exists_27 : decode cX9_exists 27 = .ok (.iload_n 1, 1) := by decide +kernel
theorem dX9_exists_28 : decode cX9_exists 28 = .ok (.ifCond .eq 12, 3) := by decide +kernel
theorem dX9_exists_31 : decode cX9_exists 31 = .ok (.aload_n 0, 1) := by decide +kernel
theorem dX9_exists_32 : decode cX9_exists 32 = .ok (.getfield 13, 3) := by decide +kernel
theorem dX9_exists_35 : decode cX9_exists 35 = .ok (.iconst 1, 1) := by decide +kernel
theorem dX9_exists_36 : decode cX9_exists 36 = .ok (.isub, 1) := by decide +kernel
theorem dX9_exists_37 : decode cX9_exists 37 = .ok (.goto 7, 3) := by decide +kernel
theorem dX9_exists_40 : decode cX9_exists 40 = .ok (.aload_n 0, 1) := by decide +kernel
theorem dX9_exists_41 : decode cX9_exists 41 = .ok (.getfield 13, 3) := by decide +kernel
theorem dX9_exists_44 : decode cX9_exists 44 = .ok (.invokestatic 73, 3) := by decide +kernel
theorem dX9_exists_47 : decode cX9_exists 47 = .ok (.ifCond .eq 7, 3) := by decide +kernel
theorem dX9_exists_50 : decode cX9_exists 50 = .ok (.iconst 1, 1) := by decide +kernel
theorem dX9_exists_51 : decode cX9_exists 51 = .ok (.goto 4, 3) := by decide +kernel
theorem dX9_exists_54 : decode cX9_exists 54 = .ok (.iconst 0, 1) := by decide +kernel
theorem dX9_exists_55 : decode cX9_exists 55 = .ok (.ireturn, 1) := by decide +kernel
set_option maxRecDepth 20000 in
theorem ggX9_isUpright_X9_level : GoodIn wsX9_isUpright wsX9_level := goodIn_r _ [5, 6, 7, 8, 9, 10, 11, 12, 13, 14, 15, 16, 17, 18, 19, 20, 21, 22, 23, 24, 25, 26, 27, 28, 29, 30, 31, 32] (by decide +kernel) (by decide +kernel)
set_option maxRecDepth 20000 in
theorem gX9_isUpright_X9_level : GoodIn wsX9_isUpright (wsV RX9 66 RX9 yX9_level wsX9_level) := goodIn_app (goodIn_of _ (by decide +kernel)) ggX9_isUpright_X9_level
theorem dX9_isUpright_0 : decode cX9_isUpright 0 = .ok (.iload_n 1, 1) := by decide +kernel
theorem dX9_isUpright_1 : decode cX9_isUpright 1 = .ok (.aload_n 0, 1) := by decide +kernel
theorem dX9_isUpright_2 : decode cX9_isUpright 2 = .ok (.invokevirtual 66, 3) := by decide +kernel
theorem dX9_isUpright_5 : decode cX9_isUpright 5 = .ok (.if_icmp .lt 7, 3) := by decide +kernel
theorem dX9_isUpright_8 : decode cX9_isUpright 8 = .ok (.iconst 1, 1) := by decide +kernel
theorem dX9_isUpright_9 : decode cX9_isUpright 9 = .ok (.goto 4, 3) := by decide +kernel
theorem dX9_isUpright_12 : decode cX9_isUpright 12 = .ok (.iconst 0, 1) := by decide +kernel
theorem dX9_isUpright_13 : decode cX9_isUpright 13 = .ok (.ireturn, 1) := by decide +kernel
set_option maxRecDepth 20000 in
theorem ggX9_columnOf_X9_isUpright : GoodIn wsX9_columnOf wsX9_isUpright := goodIn_r _ [6, 7, 8, 9, 5, 10, 11, 1, 12, 13, 14, 15, 16, 17, 18, 19, 20, 21, 22, 23, 24, 25, 26, 27, 28, 29, 30, 31, 32, 33, 34, 35, 36] (by decide +kernel) (by decide +kernel)
set_option maxRecDepth 20000 in
theorem gX9_columnOf_X9_isUpright : GoodIn wsX9_columnOf (wsV RX9 80 RX9 yX9_isUpright wsX9_isUpright) := goodIn_app (goodIn_of _ (by decide +kernel)) ggX9_columnOf_X9_isUpright
set_option maxRecDepth 20000 in
theorem ggX9_columnOf_X9_level : GoodIn wsX9_columnOf wsX9_level := goodIn_r _ [10, 11, 1, 12, 13, 14, 15, 16, 17, 18, 19, 20, 21, 22, 23, 24, 25, 26, 27, 28, 29, 30, 31, 32, 33, 34, 35, 36] (by decide +kernel) (by decide +kernel)
set_option maxRecDepth 20000 in
theorem gX9_columnOf_X9_level : GoodIn wsX9_columnOf (wsV RX9 66 RX9 yX9_level wsX9_level) := goodIn_app (goodIn_of _ (by decide +kernel)) ggX9_columnOf_X9_level
theorem dX9_columnOf_0 : decode cX9_columnOf 0 = .ok (.aload_n 0, 1) := by decide +kernel
theorem dX9_columnOf_1 : decode cX9_columnOf 1 = .ok (.iload_n 1, 1) := by decide +kernel
theorem dX9_columnOf_2 : decode cX9_columnOf 2 = .ok (.invokevirtual 80, 3) := by decide +kernel
theorem dX9_columnOf_5 : decode cX9_columnOf 5 = .ok (.ifCond .eq 19, 3) := by decide +kernel
theorem dX9_columnOf_8 : decode cX9_columnOf 8 = .ok (.iload_n 1, 1) := by decide +kernel
theorem dX9_columnOf_9 : decode cX9_columnOf 9 = .ok (.aload_n 0, 1) := by decide +kernel
theorem dX9_columnOf_10 : decode cX9_columnOf 10 = .ok (.invokevirtual 66, 3) := by decide +kernel
theorem dX9_columnOf_13 : decode cX9_columnOf 13 = .ok (.isub, 1) := by decide +kernel
theorem dX9_columnOf_14 : decode cX9_columnOf 14 = .ok (.aload_n 0, 1) := by decide +kernel
theorem dX9_columnOf_15 : decode cX9_columnOf 15 = .ok (.getfield 7, 3) := by decide +kernel
theorem dX9_columnOf_18 : decode cX9_columnOf 18 = .ok (.iconst 1, 1) := by decide +kernel
theorem dX9_columnOf_19 : decode cX9_columnOf 19 = .ok (.iadd, 1) := by decide +kernel
theorem dX9_columnOf_20 : decode cX9_columnOf 20 = .ok (.irem, 1) := by decide +kernel
theorem dX9_columnOf_21 : decode cX9_columnOf 21 = .ok (.goto 9, 3) := by decide +kernel
theorem dX9_columnOf_24 : decode cX9_columnOf 24 = .ok (.iload_n 1, 1) := by decide +kernel
theorem dX9_columnOf_25 : decode cX9_columnOf 25 = .ok (.aload_n 0, 1) := by decide +kernel
theorem dX9_columnOf_26 : decode cX9_columnOf 26 = .ok (.getfield 7, 3) := by decide +kernel
theorem dX9_columnOf_29 : decode cX9_columnOf 29 = .ok (.irem, 1) := by decide +kernel
theorem dX9_columnOf_30 : decode cX9_columnOf 30 = .ok (.ireturn, 1) := by decide +kernel
set_option maxRecDepth 20000 in
theorem ggX9_rowOf_X9_isUpright : GoodIn wsX9_rowOf wsX9_isUpright := goodIn_r _ [6, 7, 8, 9, 5, 10, 11, 1, 12, 13, 14, 15, 16, 17, 18, 19, 20, 21, 22, 23, 24, 25, 26, 27, 28, 29, 30, 31, 32, 33, 34, 35, 36] (by decide +kernel) (by decide +kernel)
set_option maxRecDepth 20000 in
theorem gX9_rowOf_X9_isUpright : GoodIn wsX9_rowOf (wsV RX9 80 RX9 yX9_isUpright wsX9_isUpright) := goodIn_app (goodIn_of _ (by decide +kernel)) ggX9_rowOf_X9_isUpright
set_option maxRecDepth 20000 in
theorem ggX9_rowOf_X9_level : GoodIn wsX9_rowOf wsX9_level := goodIn_r _ [10, 11, 1, 12, 13, 14, 15, 16, 17, 18, 19, 20, 21, 22, 23, 24, 25, 26, 27, 28, 29, 30, 31, 32, 33, 34, 35, 36] (by decide +kernel) (by decide +kernel)
set_option maxRecDepth 20000 in
theorem gX9_rowOf_X9_level : GoodIn wsX9_rowOf (wsV RX9 66 RX9 yX9_level wsX9_level) := goodIn_app (goodIn_of _ (by decide +kernel)) ggX9_rowOf_X9_level
theorem dX9_rowOf_0 : decode cX9_rowOf 0 = .ok (.aload_n 0, 1) := by decide +kernel
theorem dX9_rowOf_1 : decode cX9_rowOf 1 = .ok (.iload_n 1, 1) := by decide +kernel
theorem dX9_rowOf_2 : decode cX9_rowOf 2 = .ok (.invokevirtual 80, 3) := by decide +kernel
theorem dX9_rowOf_5 : decode cX9_rowOf 5 = .ok (.ifCond .eq 19, 3) := by decide +kernel
theorem dX9_rowOf_8 : decode cX9_rowOf 8 = .ok (.iload_n 1, 1) := by decide +kernel
theorem dX9_rowOf_9 : decode cX9_rowOf 9 = .ok (.aload_n 0, 1) := by decide +kernel
theorem dX9_rowOf_10 : decode cX9_rowOf 10 = .ok (.invokevirtual 66, 3) := by decide +kernel
theorem dX9_rowOf_13 : decode cX9_rowOf 13 = .ok (.isub, 1) := by decide +kernel
theorem dX9_rowOf_14 : decode cX9_rowOf 14 = .ok (.aload_n 0, 1) := by decide +kernel
theorem dX9_rowOf_15 : decode cX9_rowOf 15 = .ok (.getfield 7, 3) := by decide +kernel
theorem dX9_rowOf_18 : decode cX9_rowOf 18 = .ok (.iconst 1, 1) := by decide +kernel
theorem dX9_rowOf_19 : decode cX9_rowOf 19 = .ok (.iadd, 1) := by decide +kernel
theorem dX9_rowOf_20 : decode cX9_rowOf 20 = .ok (.idiv, 1) := by decide +kernel
theorem dX9_rowOf_21 : decode cX9_rowOf 21 = .ok (.goto 9, 3) := by decide +kernel
theorem dX9_rowOf_24 : decode cX9_rowOf 24 = .ok (.iload_n 1, 1) := by decide +kernel
theorem dX9_rowOf_25 : decode cX9_rowOf 25 = .ok (.aload_n 0, 1) := by decide +kernel
theorem dX9_rowOf_26 : decode cX9_rowOf 26 = .ok (.getfield 7, 3) := by decide +kernel
theorem dX9_rowOf_29 : decode cX9_rowOf 29 = .ok (.idiv, 1) := by decide +kernel
theorem dX9_rowOf_30 : decode cX9_rowOf 30 = .ok (.ireturn, 1) := by decide +kernel
set_option maxRecDepth 20000 in
theorem ggX9_beside_X9_columnOf : GoodIn wsX9_beside wsX9_columnOf := goodIn_r _ [7, 1, 8, 9, 10, 6, 11, 12, 13, 14, 15, 2, 23, 24, 25, 26, 27, 28, 29, 30, 31, 32, 33, 34, 35, 36, 37, 38, 39, 40, 41, 42, 43, 44, 45, 46, 47] (by decide +kernel) (by decide +kernel)
set_option maxRecDepth 20000 in
theorem gX9_beside_X9_columnOf : GoodIn wsX9_beside (wsV RX9 84 RX9 yX9_columnOf wsX9_columnOf) := goodIn_app (goodIn_of _ (by decide +kernel)) ggX9_beside_X9_columnOf
set_option maxRecDepth 20000 in
theorem ggX9_beside_X9_isUpright : GoodIn wsX9_beside wsX9_isUpright := goodIn_r _ [11, 12, 13, 14, 6, 15, 2, 1, 23, 24, 25, 26, 27, 28, 29, 30, 31, 32, 33, 34, 35, 36, 37, 38, 39, 40, 41, 42, 43, 44, 45, 46, 47] (by decide +kernel) (by decide +kernel)
set_option maxRecDepth 20000 in
theorem gX9_beside_X9_isUpright : GoodIn wsX9_beside (wsV RX9 80 RX9 yX9_isUpright wsX9_isUpright) := goodIn_app (goodIn_of _ (by decide +kernel)) ggX9_beside_X9_isUpright
set_option maxRecDepth 20000 in
theorem ggX9_beside_X9_rowOf : GoodIn wsX9_beside wsX9_rowOf := goodIn_r _ [19, 1, 8, 9, 10, 6, 11, 12, 13, 14, 15, 2, 23, 24, 25, 26, 27, 28, 29, 30, 31, 32, 33, 34, 35, 36, 37, 38, 39, 40, 41, 42, 43, 44, 45, 46, 47] (by decide +kernel) (by decide +kernel)
set_option maxRecDepth 20000 in
theorem gX9_beside_X9_rowOf : GoodIn wsX9_beside (wsV RX9 88 RX9 yX9_rowOf wsX9_rowOf) := goodIn_app (goodIn_of _ (by decide +kernel)) ggX9_beside_X9_rowOf
set_option maxRecDepth 20000 in
theorem ggX9_beside_X9_within : GoodIn wsX9_beside wsX9_within := goodIn_r _ [22] (by decide +kernel) (by decide +kernel)
set_option maxRecDepth 20000 in
theorem gX9_beside_X9_within : GoodIn wsX9_beside (va_wsS RX9 73 yX9_within wsX9_within) := goodIn_app (goodIn_of _ (by decide +kernel)) ggX9_beside_X9_within
theorem dX9_beside_0 : decode cX9_beside 0 = .ok (.aload_n 0, 1) := by decide +kernel
theorem dX9_beside_1 : decode cX9_beside 1 = .ok (.iload_n 1, 1) := by decide +kernel
theorem dX9_beside_2 : decode cX9_beside 2 = .ok (.invokevirtual 84, 3) := by decide +kernel
theorem dX9_beside_5 : decode cX9_beside 5 = .ok (.aload_n 0, 1) := by decide +kernel
theorem dX9_beside_6 : decode cX9_beside 6 = .ok (.iload_n 1, 1) := by decide +kernel
theorem dX9_beside_7 : decode cX9_beside 7 = .ok (.invokevirtual 80, 3) := by decide +kernel
theorem dX9_beside_10 : decode cX9_beside 10 = .ok (.ifCond .eq 11, 3) := by decide +kernel
theorem dX9_beside_13 : decode cX9_beside 13 = .ok (.iload_n 2, 1) := by decide +kernel
theorem dX9_beside_14 : decode cX9_beside 14 = .ok (.ifCond .ne 7, 3) := by decide +kernel
theorem dX9_beside_17 : decode cX9_beside 17 = .ok (.iconst 1, 1) := by decide +kernel
theorem dX9_beside_18 : decode cX9_beside 18 = .ok (.goto 4, 3) := by decide +kernel
theorem dX9_beside_21 : decode cX9_beside 21 = .ok (.iconst 0, 1) := by decide +kernel
theorem dX9_beside_22 : decode cX9_beside 22 = .ok (.isub, 1) := by decide +kernel
theorem dX9_beside_23 : decode cX9_beside 23 = .ok (.istore_n 3, 1) := by decide +kernel
theorem dX9_beside_24 : decode cX9_beside 24 = .ok (.aload_n 0, 1) := by decide +kernel
theorem dX9_beside_25 : decode cX9_beside 25 = .ok (.iload_n 1, 1) := by decide +kernel
theorem dX9_beside_26 : decode cX9_beside 26 = .ok (.invokevirtual 88, 3) := by decide +kernel
theorem dX9_beside_29 : decode cX9_beside 29 = .ok (.aload_n 0, 1) := by decide +kernel
theorem dX9_beside_30 : decode cX9_beside 30 = .ok (.iload_n 1, 1) := by decide +kernel
theorem dX9_beside_31 : decode cX9_beside 31 = .ok (.invokevirtual 80, 3) := by decide +kernel
theorem dX9_beside_34 : decode cX9_beside 34 = .ok (.ifCond .ne 11, 3) := by decide +kernel
theorem dX9_beside_37 : decode cX9_beside 37 = .ok (.iload_n 2, 1) := by decide +kernel
theorem dX9_beside_38 : decode cX9_beside 38 = .ok (.ifCond .ne 7, 3) := by decide +kernel
theorem dX9_beside_41 : decode cX9_beside 41 = .ok (.iconst 1, 1) := by decide +kernel
theorem dX9_beside_42 : decode cX9_beside 42 = .ok (.goto 4, 3) := by decide +kernel
theorem dX9_beside_45 : decode cX9_beside 45 = .ok (.iconst 0, 1) := by decide +kernel
theorem dX9_beside_46 : decode cX9_beside 46 = .ok (.isub, 1) := by decide +kernel
theorem dX9_beside_47 : decode cX9_beside 47 = .ok (.istore 4, 2) := by decide +kernel
theorem dX9_beside_49 : decode cX9_beside 49 = .ok (.iload_n 3, 1) := by decide +kernel
theorem dX9_beside_50 : decode cX9_beside 50 = .ok (.iconst 0, 1) := by decide +kernel
theorem dX9_beside_51 : decode cX9_beside 51 = .ok (.aload_n 0, 1) := by decide +kernel
theorem dX9_beside_52 : decode cX9_beside 52 = .ok (.getfield 7, 3) := by decide +kernel
theorem dX9_beside_55 : decode cX9_beside 55 = .ok (.iconst 1, 1) := by decide +kernel
theorem dX9_beside_56 : decode cX9_beside 56 = .ok (.isub, 1) := by decide +kernel
theorem dX9_beside_57 : decode cX9_beside 57 = .ok (.invokestatic 73, 3) := by decide +kernel
theorem dX9_beside_60 : decode cX9_beside 60 = .ok (.ifCond .eq 30, 3) := by decide +kernel
theorem dX9_beside_63 : decode cX9_beside 63 = .ok (.iload 4, 2) := by decide +kernel
theorem dX9_beside_65 : decode cX9_beside 65 = .ok (.iconst 0, 1) := by decide +kernel
theorem dX9_beside_66 : decode cX9_beside 66 = .ok (.aload_n 0, 1) := by decide +kernel
theorem dX9_beside_67 : decode cX9_beside 67 = .ok (.getfield 13, 3) := by decide +kernel
theorem dX9_beside_70 : decode cX9_beside 70 = .ok (.iconst 1, 1) := by decide +kernel
theorem dX9_beside_71 : decode cX9_beside 71 = .ok (.isub, 1) := by decide +kernel
theorem dX9_beside_72 : decode cX9_beside 72 = .ok (.invokestatic 73, 3) := by decide +kernel
theorem dX9_beside_75 : decode cX9_beside 75 = .ok (.ifCond .eq 15, 3) := by decide +kernel
theorem dX9_beside_78 : decode cX9_beside 78 = .ok (.iload 4, 2) := by decide +kernel
theorem dX9_beside_80 : decode cX9_beside 80 = .ok (.aload_n 0, 1) := by decide +kernel
theorem dX9_beside_81 : decode cX9_beside 81 = .ok (.getfield 7, 3) := by decide +kernel
theorem dX9_beside_84 : decode cX9_beside 84 = .ok (.imul, 1) := by decide +kernel
theorem dX9_beside_85 : decode cX9_beside 85 = .ok (.iload_n 3, 1) := by decide +kernel
theorem dX9_beside_86 : decode cX9_beside 86 = .ok (.iadd, 1) := by decide +kernel
theorem dX9_beside_87 : decode cX9_beside 87 = .ok (.goto 4, 3) := by decide +kernel
theorem dX9_beside_90 : decode cX9_beside 90 = .ok (.iconst (-1), 1) := by decide +kernel
theorem dX9_beside_91 : decode cX9_beside 91 = .ok (.ireturn, 1) := by decide +kernel
set_option maxRecDepth 20000 in
theorem ggX9_sideOf_X9_numberOf : GoodIn wsX9_sideOf wsX9_numberOf := goodIn_r _ [6, 1, 7, 8, 9, 5, 10, 11, 12, 13, 14, 15, 16, 17, 18, 19, 20, 21, 22, 23, 24, 25, 26, 27, 28, 29, 30, 31, 32, 33, 34, 35, 36] (by decide +kernel) (by decide +kernel)
set_option maxRecDepth 20000 in
theorem gX9_sideOf_X9_numberOf : GoodIn wsX9_sideOf (wsV RX9 91 RX9 yX9_numberOf wsX9_numberOf) := goodIn_app (goodIn_of _ (by decide +kernel)) ggX9_sideOf_X9_numberOf
theorem dX9_sideOf_0 : decode cX9_sideOf 0 = .ok (.iload_n 1, 1) := by decide +kernel
theorem dX9_sideOf_1 : decode cX9_sideOf 1 = .ok (.aload_n 0, 1) := by decide +kernel
theorem dX9_sideOf_2 : decode cX9_sideOf 2 = .ok (.getfield 7, 3) := by decide +kernel
theorem dX9_sideOf_5 : decode cX9_sideOf 5 = .ok (.irem, 1) := by decide +kernel
theorem dX9_sideOf_6 : decode cX9_sideOf 6 = .ok (.istore_n 3, 1) := by decide +kernel
theorem dX9_sideOf_7 : decode cX9_sideOf 7 = .ok (.iload_n 1, 1) := by decide +kernel
theorem dX9_sideOf_8 : decode cX9_sideOf 8 = .ok (.aload_n 0, 1) := by decide +kernel
theorem dX9_sideOf_9 : decode cX9_sideOf 9 = .ok (.getfield 7, 3) := by decide +kernel
theorem dX9_sideOf_12 : decode cX9_sideOf 12 = .ok (.idiv, 1) := by decide +kernel
theorem dX9_sideOf_13 : decode cX9_sideOf 13 = .ok (.istore 4, 2) := by decide +kernel
theorem dX9_sideOf_15 : decode cX9_sideOf 15 = .ok (.iload_n 2, 1) := by decide +kernel
theorem dX9_sideOf_16 : decode cX9_sideOf 16 = .ok (.iconst 2, 1) := by decide +kernel
theorem dX9_sideOf_17 : decode cX9_sideOf 17 = .ok (.if_icmp .ge 16, 3) := by decide +kernel
theorem dX9_sideOf_20 : decode cX9_sideOf 20 = .ok (.aload_n 0, 1) := by decide +kernel
theorem dX9_sideOf_21 : decode cX9_sideOf 21 = .ok (.iconst 0, 1) := by decide +kernel
theorem dX9_sideOf_22 : decode cX9_sideOf 22 = .ok (.iload_n 3, 1) := by decide +kernel
theorem dX9_sideOf_23 : decode cX9_sideOf 23 = .ok (.iload 4, 2) := by decide +kernel
theorem dX9_sideOf_25 : decode cX9_sideOf 25 = .ok (.iload_n 2, 1) := by decide +kernel
theorem dX9_sideOf_26 : decode cX9_sideOf 26 = .ok (.iadd, 1) := by decide +kernel
theorem dX9_sideOf_27 : decode cX9_sideOf 27 = .ok (.invokevirtual 91, 3) := by decide +kernel
theorem dX9_sideOf_30 : decode cX9_sideOf 30 = .ok (.goto 15, 3) := by decide +kernel
theorem dX9_sideOf_33 : decode cX9_sideOf 33 = .ok (.aload_n 0, 1) := by decide +kernel
theorem dX9_sideOf_34 : decode cX9_sideOf 34 = .ok (.iconst 1, 1) := by decide +kernel
theorem dX9_sideOf_35 : decode cX9_sideOf 35 = .ok (.iload_n 3, 1) := by decide +kernel
theorem dX9_sideOf_36 : decode cX9_sideOf 36 = .ok (.iload_n 2, 1) := by decide +kernel
theorem dX9_sideOf_37 : decode cX9_sideOf 37 = .ok (.iadd, 1) := by decide +kernel
theorem dX9_sideOf_38 : decode cX9_sideOf 38 = .ok (.iconst 2, 1) := by decide +kernel
theorem dX9_sideOf_39 : decode cX9_sideOf 39 = .ok (.isub, 1) := by decide +kernel
theorem dX9_sideOf_40 : decode cX9_sideOf 40 = .ok (.iload 4, 2) := by decide +kernel
theorem dX9_sideOf_42 : decode cX9_sideOf 42 = .ok (.invokevirtual 91, 3) := by decide +kernel
theorem dX9_sideOf_45 : decode cX9_sideOf 45 = .ok (.ireturn, 1) := by decide +kernel
set_option maxRecDepth 20000 in
theorem ggX9_openOf_X9_sideOf : GoodIn wsX9_openOf wsX9_sideOf := goodIn_r _ [5, 6, 7, 8, 9, 4, 10, 11, 12, 13, 14, 15, 19, 20, 21, 22, 23, 24, 25, 26, 27, 28, 29, 30, 31, 32, 33, 34, 35, 36, 37, 38, 39, 40, 41, 42, 43] (by decide +kernel) (by decide +kernel)
set_option maxRecDepth 20000 in
theorem gX9_openOf_X9_sideOf : GoodIn wsX9_openOf (wsV RX9 95 RX9 yX9_sideOf wsX9_sideOf) := goodIn_app (goodIn_of _ (by decide +kernel)) ggX9_openOf_X9_sideOf
set_option maxRecDepth 20000 in
theorem ggX9_openOf_X9_has : GoodIn wsX9_openOf wsX9_has := goodIn_r _ [18] (by decide +kernel) (by decide +kernel)
set_option maxRecDepth 20000 in
theorem gX9_openOf_X9_has : GoodIn wsX9_openOf (va_wsS RX9 62 yX9_has wsX9_has) := goodIn_app (goodIn_of _ (by decide +kernel)) ggX9_openOf_X9_has
theorem dX9_openOf_0 : decode cX9_openOf 0 = .ok (.iconst 0, 1) := by decide +kernel
theorem dX9_openOf_1 : decode cX9_openOf 1 = .ok (.istore 4, 2) := by decide +kernel
theorem dX9_openOf_3 : decode cX9_openOf 3 = .ok (.iconst 0, 1) := by decide +kernel
theorem dX9_openOf_4 : decode cX9_openOf 4 = .ok (.istore 5, 2) := by decide +kernel
theorem dX9_openOf_6 : decode cX9_openOf 6 = .ok (.iload 5, 2) := by decide +kernel
theorem dX9_openOf_8 : decode cX9_openOf 8 = .ok (.iconst 4, 1) := by decide +kernel
theorem dX9_openOf_9 : decode cX9_openOf 9 = .ok (.if_icmp .ge 33, 3) := by decide +kernel
theorem dX9_openOf_12 : decode cX9_openOf 12 = .ok (.iload 4, 2) := by decide +kernel
theorem dX9_openOf_14 : decode cX9_openOf 14 = .ok (.lload_n 2, 1) := by decide +kernel
theorem dX9_openOf_15 : decode cX9_openOf 15 = .ok (.aload_n 0, 1) := by decide +kernel
theorem dX9_openOf_16 : decode cX9_openOf 16 = .ok (.iload_n 1, 1) := by decide +kernel
theorem dX9_openOf_17 : decode cX9_openOf 17 = .ok (.iload 5, 2) := by decide +kernel
theorem dX9_openOf_19 : decode cX9_openOf 19 = .ok (.invokevirtual 95, 3) := by decide +kernel
theorem dX9_openOf_22 : decode cX9_openOf 22 = .ok (.invokestatic 62, 3) := by decide +kernel
theorem dX9_openOf_25 : decode cX9_openOf 25 = .ok (.ifCond .eq 7, 3) := by decide +kernel
theorem dX9_openOf_28 : decode cX9_openOf 28 = .ok (.iconst 0, 1) := by decide +kernel
theorem dX9_openOf_29 : decode cX9_openOf 29 = .ok (.goto 4, 3) := by decide +kernel
theorem dX9_openOf_32 : decode cX9_openOf 32 = .ok (.iconst 1, 1) := by decide +kernel
theorem dX9_openOf_33 : decode cX9_openOf 33 = .ok (.iadd, 1) := by decide +kernel
theorem dX9_openOf_34 : decode cX9_openOf 34 = .ok (.istore 4, 2) := by decide +kernel
theorem dX9_openOf_36 : decode cX9_openOf 36 = .ok (.iinc 5 1, 3) := by decide +kernel
theorem dX9_openOf_39 : decode cX9_openOf 39 = .ok (.goto (-33), 3) := by decide +kernel
theorem dX9_openOf_42 : decode cX9_openOf 42 = .ok (.iload 4, 2) := by decide +kernel
theorem dX9_openOf_44 : decode cX9_openOf 44 = .ok (.ireturn, 1) := by decide +kernel
set_option maxRecDepth 20000 in
theorem ggX9_gains_X9_beside : GoodIn wsX9_gains wsX9_beside := goodIn_r _ [5, 6, 7, 8, 9, 10, 4, 11, 12, 13, 14, 15, 16, 17, 18, 19, 20, 21, 22, 23, 24, 25, 26, 42, 43, 44, 45, 46, 47, 48, 49, 50, 51, 52, 53, 54, 55, 56, 57, 58, 59, 60, 61, 62, 63, 64, 65, 66] (by decide +kernel) (by decide +kernel)
set_option maxRecDepth 20000 in
theorem gX9_gains_X9_beside : GoodIn wsX9_gains (wsV RX9 99 RX9 yX9_beside wsX9_beside) := goodIn_app (goodIn_of _ (by decide +kernel)) ggX9_gains_X9_beside
set_option maxRecDepth 20000 in
theorem ggX9_gains_X9_openOf : GoodIn wsX9_gains wsX9_openOf := goodIn_r _ [30, 31, 32, 33, 4, 34, 6, 35, 36, 37, 38, 16, 17, 18, 19, 7, 39, 40, 41, 42, 43, 44, 45, 46, 47, 48, 49, 50, 51, 52, 53, 54, 55, 56, 57, 58, 59, 60, 61, 62, 63, 64, 65, 66] (by decide +kernel) (by decide +kernel)
set_option maxRecDepth 20000 in
theorem gX9_gains_X9_openOf : GoodIn wsX9_gains (wsV RX9 102 RX9 yX9_openOf wsX9_openOf) := goodIn_app (goodIn_of _ (by decide +kernel)) ggX9_gains_X9_openOf
theorem dX9_gains_0 : decode cX9_gains 0 = .ok (.iconst 0, 1) := by decide +kernel
theorem dX9_gains_1 : decode cX9_gains 1 = .ok (.istore 4, 2) := by decide +kernel
theorem dX9_gains_3 : decode cX9_gains 3 = .ok (.iconst 0, 1) := by decide +kernel
theorem dX9_gains_4 : decode cX9_gains 4 = .ok (.istore 5, 2) := by decide +kernel
theorem dX9_gains_6 : decode cX9_gains 6 = .ok (.iload 5, 2) := by decide +kernel
theorem dX9_gains_8 : decode cX9_gains 8 = .ok (.iconst 2, 1) := by decide +kernel
theorem dX9_gains_9 : decode cX9_gains 9 = .ok (.if_icmp .ge 45, 3) := by decide +kernel
theorem dX9_gains_12 : decode cX9_gains 12 = .ok (.aload_n 0, 1) := by decide +kernel
theorem dX9_gains_13 : decode cX9_gains 13 = .ok (.iload_n 1, 1) := by decide +kernel
theorem dX9_gains_14 : decode cX9_gains 14 = .ok (.iload 5, 2) := by decide +kernel
theorem dX9_gains_16 : decode cX9_gains 16 = .ok (.invokevirtual 99, 3) := by decide +kernel
theorem dX9_gains_19 : decode cX9_gains 19 = .ok (.istore 6, 2) := by decide +kernel
theorem dX9_gains_21 : decode cX9_gains 21 = .ok (.iload 4, 2) := by decide +kernel
theorem dX9_gains_23 : decode cX9_gains 23 = .ok (.iload 6, 2) := by decide +kernel
theorem dX9_gains_25 : decode cX9_gains 25 = .ok (.iconst (-1), 1) := by decide +kernel
theorem dX9_gains_26 : decode cX9_gains 26 = .ok (.if_icmp .eq 18, 3) := by decide +kernel
theorem dX9_gains_29 : decode cX9_gains 29 = .ok (.aload_n 0, 1) := by decide +kernel
theorem dX9_gains_30 : decode cX9_gains 30 = .ok (.iload 6, 2) := by decide +kernel
theorem dX9_gains_32 : decode cX9_gains 32 = .ok (.lload_n 2, 1) := by decide +kernel
theorem dX9_gains_33 : decode cX9_gains 33 = .ok (.invokevirtual 102, 3) := by decide +kernel
theorem dX9_gains_36 : decode cX9_gains 36 = .ok (.iconst 1, 1) := by decide +kernel
theorem dX9_gains_37 : decode cX9_gains 37 = .ok (.if_icmp .ne 7, 3) := by decide +kernel
theorem dX9_gains_40 : decode cX9_gains 40 = .ok (.iconst 1, 1) := by decide +kernel
theorem dX9_gains_41 : decode cX9_gains 41 = .ok (.goto 4, 3) := by decide +kernel
theorem dX9_gains_44 : decode cX9_gains 44 = .ok (.iconst 0, 1) := by decide +kernel
theorem dX9_gains_45 : decode cX9_gains 45 = .ok (.iadd, 1) := by decide +kernel
theorem dX9_gains_46 : decode cX9_gains 46 = .ok (.istore 4, 2) := by decide +kernel
theorem dX9_gains_48 : decode cX9_gains 48 = .ok (.iinc 5 1, 3) := by decide +kernel
theorem dX9_gains_51 : decode cX9_gains 51 = .ok (.goto (-45), 3) := by decide +kernel
theorem dX9_gains_54 : decode cX9_gains 54 = .ok (.iload 4, 2) := by decide +kernel
theorem dX9_gains_56 : decode cX9_gains 56 = .ok (.ireturn, 1) := by decide +kernel
set_option maxRecDepth 20000 in
theorem ggX9_leavesOne_X9_beside : GoodIn wsX9_leavesOne wsX9_beside := goodIn_r _ [5, 6, 7, 8, 9, 10, 4, 11, 12, 13, 14, 15, 16, 17, 18, 19, 20, 21, 22, 23, 24, 25, 26, 42, 43, 44, 45, 46, 47, 48, 49, 50, 51, 52, 53, 54, 55, 56, 57, 58, 59, 60, 61, 62, 63, 64, 65, 66] (by decide +kernel) (by decide +kernel)
set_option maxRecDepth 20000 in
theorem gX9_leavesOne_X9_beside : GoodIn wsX9_leavesOne (wsV RX9 99 RX9 yX9_beside wsX9_beside) := goodIn_app (goodIn_of _ (by decide +kernel)) ggX9_leavesOne_X9_beside
set_option maxRecDepth 20000 in
theorem ggX9_leavesOne_X9_openOf : GoodIn wsX9_leavesOne wsX9_openOf := goodIn_r _ [30, 31, 32, 33, 4, 34, 6, 35, 36, 37, 38, 16, 17, 18, 19, 7, 39, 40, 41, 42, 43, 44, 45, 46, 47, 48, 49, 50, 51, 52, 53, 54, 55, 56, 57, 58, 59, 60, 61, 62, 63, 64, 65, 66] (by decide +kernel) (by decide +kernel)
set_option maxRecDepth 20000 in
theorem gX9_leavesOne_X9_openOf : GoodIn wsX9_leavesOne (wsV RX9 102 RX9 yX9_openOf wsX9_openOf) := goodIn_app (goodIn_of _ (by decide +kernel)) ggX9_leavesOne_X9_openOf
theorem dX9_leavesOne_0 : decode cX9_leavesOne 0 = .ok (.iconst 0, 1) := by decide +kernel
theorem dX9_leavesOne_1 : decode cX9_leavesOne 1 = .ok (.istore 4, 2) := by decide +kernel
theorem dX9_leavesOne_3 : decode cX9_leavesOne 3 = .ok (.iconst 0, 1) := by decide +kernel
theorem dX9_leavesOne_4 : decode cX9_leavesOne 4 = .ok (.istore 5, 2) := by decide +kernel
theorem dX9_leavesOne_6 : decode cX9_leavesOne 6 = .ok (.iload 5, 2) := by decide +kernel
theorem dX9_leavesOne_8 : decode cX9_leavesOne 8 = .ok (.iconst 2, 1) := by decide +kernel
theorem dX9_leavesOne_9 : decode cX9_leavesOne 9 = .ok (.if_icmp .ge 47, 3) := by decide +kernel
theorem dX9_leavesOne_12 : decode cX9_leavesOne 12 = .ok (.aload_n 0, 1) := by decide +kernel
theorem dX9_leavesOne_13 : decode cX9_leavesOne 13 = .ok (.iload_n 1, 1) := by decide +kernel
theorem dX9_leavesOne_14 : decode cX9_leavesOne 14 = .ok (.iload 5, 2) := by decide +kernel
theorem dX9_leavesOne_16 : decode cX9_leavesOne 16 = .ok (.invokevirtual 99, 3) := by decide +kernel
theorem dX9_leavesOne_19 : decode cX9_leavesOne 19 = .ok (.istore 6, 2) := by decide +kernel
theorem dX9_leavesOne_21 : decode cX9_leavesOne 21 = .ok (.iload 4, 2) := by decide +kernel
theorem dX9_leavesOne_23 : decode cX9_leavesOne 23 = .ok (.ifCond .ne 20, 3) := by decide +kernel
theorem dX9_leavesOne_26 : decode cX9_leavesOne 26 = .ok (.iload 6, 2) := by decide +kernel
theorem dX9_leavesOne_28 : decode cX9_leavesOne 28 = .ok (.iconst (-1), 1) := by decide +kernel
theorem dX9_leavesOne_29 : decode cX9_leavesOne 29 = .ok (.if_icmp .eq 18, 3) := by decide +kernel
theorem dX9_leavesOne_32 : decode cX9_leavesOne 32 = .ok (.aload_n 0, 1) := by decide +kernel
theorem dX9_leavesOne_33 : decode cX9_leavesOne 33 = .ok (.iload 6, 2) := by decide +kernel
theorem dX9_leavesOne_35 : decode cX9_leavesOne 35 = .ok (.lload_n 2, 1) := by decide +kernel
theorem dX9_leavesOne_36 : decode cX9_leavesOne 36 = .ok (.invokevirtual 102, 3) := by decide +kernel
theorem dX9_leavesOne_39 : decode cX9_leavesOne 39 = .ok (.iconst 2, 1) := by decide +kernel
theorem dX9_leavesOne_40 : decode cX9_leavesOne 40 = .ok (.if_icmp .ne 7, 3) := by decide +kernel
theorem dX9_leavesOne_43 : decode cX9_leavesOne 43 = .ok (.iconst 1, 1) := by decide +kernel
theorem dX9_leavesOne_44 : decode cX9_leavesOne 44 = .ok (.goto 4, 3) := by decide +kernel
theorem dX9_leavesOne_47 : decode cX9_leavesOne 47 = .ok (.iconst 0, 1) := by decide +kernel
theorem dX9_leavesOne_48 : decode cX9_leavesOne 48 = .ok (.istore 4, 2) := by decide +kernel
theorem dX9_leavesOne_50 : decode cX9_leavesOne 50 = .ok (.iinc 5 1, 3) := by decide +kernel
theorem dX9_leavesOne_53 : decode cX9_leavesOne 53 = .ok (.goto (-47), 3) := by decide +kernel
theorem dX9_leavesOne_56 : decode cX9_leavesOne 56 = .ok (.iload 4, 2) := by decide +kernel
theorem dX9_leavesOne_58 : decode cX9_leavesOne 58 = .ok (.ireturn, 1) := by decide +kernel
set_option maxRecDepth 20000 in
theorem ggX9_kindIn_X9_has : GoodIn wsX9_kindIn wsX9_has := goodIn_r _ [4] (by decide +kernel) (by decide +kernel)
set_option maxRecDepth 20000 in
theorem gX9_kindIn_X9_has : GoodIn wsX9_kindIn (va_wsS RX9 62 yX9_has wsX9_has) := goodIn_app (goodIn_of _ (by decide +kernel)) ggX9_kindIn_X9_has
set_option maxRecDepth 20000 in
theorem ggX9_kindIn_X9_gains : GoodIn wsX9_kindIn wsX9_gains := goodIn_r _ [8, 9, 10, 11, 3, 12, 13, 14, 15, 16, 17, 18, 19, 20, 21, 22, 23, 24, 25, 26, 27, 28, 29, 30, 31, 32, 33, 34, 35, 36, 37, 38, 39, 40, 41, 42, 43, 44, 45, 1, 2, 4, 50, 51, 52, 53, 54, 55, 56, 57, 58, 59, 60, 61, 62, 63, 64, 65, 66, 67, 68, 69, 70, 71, 72, 73, 74] (by decide +kernel) (by decide +kernel)
set_option maxRecDepth 20000 in
theorem gX9_kindIn_X9_gains : GoodIn wsX9_kindIn (wsV RX9 106 RX9 yX9_gains wsX9_gains) := goodIn_app (goodIn_of _ (by decide +kernel)) ggX9_kindIn_X9_gains
set_option maxRecDepth 20000 in
theorem ggX9_kindIn_X9_leavesOne : GoodIn wsX9_kindIn wsX9_leavesOne := goodIn_r _ [49, 9, 10, 11, 3, 12, 13, 14, 15, 16, 17, 18, 19, 20, 21, 22, 23, 24, 25, 26, 27, 28, 29, 30, 31, 32, 33, 34, 35, 36, 37, 38, 39, 40, 41, 42, 43, 44, 45, 1, 2, 4, 50, 51, 52, 53, 54, 55, 56, 57, 58, 59, 60, 61, 62, 63, 64, 65, 66, 67, 68, 69, 70, 71, 72, 73, 74] (by decide +kernel) (by decide +kernel)
set_option maxRecDepth 20000 in
theorem gX9_kindIn_X9_leavesOne : GoodIn wsX9_kindIn (wsV RX9 109 RX9 yX9_leavesOne wsX9_leavesOne) := goodIn_app (goodIn_of _ (by decide +kernel)) ggX9_kindIn_X9_leavesOne
theorem dX9_kindIn_0 : decode cX9_kindIn 0 = .ok (.lload_n 2, 1) := by decide +kernel
theorem dX9_kindIn_1 : decode cX9_kindIn 1 = .ok (.iload_n 1, 1) := by decide +kernel
theorem dX9_kindIn_2 : decode cX9_kindIn 2 = .ok (.invokestatic 62, 3) := by decide +kernel
theorem dX9_kindIn_5 : decode cX9_kindIn 5 = .ok (.ifCond .eq 7, 3) := by decide +kernel
theorem dX9_kindIn_8 : decode cX9_kindIn 8 = .ok (.iconst 0, 1) := by decide +kernel
theorem dX9_kindIn_9 : decode cX9_kindIn 9 = .ok (.goto 30, 3) := by decide +kernel
theorem dX9_kindIn_12 : decode cX9_kindIn 12 = .ok (.aload_n 0, 1) := by decide +kernel
theorem dX9_kindIn_13 : decode cX9_kindIn 13 = .ok (.iload_n 1, 1) := by decide +kernel
theorem dX9_kindIn_14 : decode cX9_kindIn 14 = .ok (.lload_n 2, 1) := by decide +kernel
theorem dX9_kindIn_15 : decode cX9_kindIn 15 = .ok (.invokevirtual 106, 3) := by decide +kernel
theorem dX9_kindIn_18 : decode cX9_kindIn 18 = .ok (.ifCond .le 7, 3) := by decide +kernel
theorem dX9_kindIn_21 : decode cX9_kindIn 21 = .ok (.iconst 1, 1) := by decide +kernel
theorem dX9_kindIn_22 : decode cX9_kindIn 22 = .ok (.goto 17, 3) := by decide +kernel
theorem dX9_kindIn_25 : decode cX9_kindIn 25 = .ok (.aload_n 0, 1) := by decide +kernel
theorem dX9_kindIn_26 : decode cX9_kindIn 26 = .ok (.iload_n 1, 1) := by decide +kernel
theorem dX9_kindIn_27 : decode cX9_kindIn 27 = .ok (.lload_n 2, 1) := by decide +kernel
theorem dX9_kindIn_28 : decode cX9_kindIn 28 = .ok (.invokevirtual 109, 3) := by decide +kernel
theorem dX9_kindIn_31 : decode cX9_kindIn 31 = .ok (.ifCond .eq 7, 3) := by decide +kernel
theorem dX9_kindIn_34 : decode cX9_kindIn 34 = .ok (.iconst 3, 1) := by decide +kernel
theorem dX9_kindIn_35 : decode cX9_kindIn 35 = .ok (.goto 4, 3) := by decide +kernel
theorem dX9_kindIn_38 : decode cX9_kindIn 38 = .ok (.iconst 2, 1) := by decide +kernel
theorem dX9_kindIn_39 : decode cX9_kindIn 39 = .ok (.ireturn, 1) := by decide +kernel
set_option maxRecDepth 20000 in
theorem ggX9_firstOf_X9_all : GoodIn wsX9_firstOf wsX9_all := goodIn_r _ [5, 6, 7, 8, 9, 10, 4, 11, 58, 59, 60, 61, 62, 63, 64, 65, 66, 67, 68, 69, 70, 71, 72, 73, 74, 75, 76, 77, 78, 79, 80, 81, 82] (by decide +kernel) (by decide +kernel)
set_option maxRecDepth 20000 in
theorem gX9_firstOf_X9_all : GoodIn wsX9_firstOf (wsV RX9 70 RX9 yX9_all wsX9_all) := goodIn_app (goodIn_of _ (by decide +kernel)) ggX9_firstOf_X9_all
set_option maxRecDepth 20000 in
theorem ggX9_firstOf_X9_kindIn : GoodIn wsX9_firstOf wsX9_kindIn := goodIn_r _ [15, 16, 17, 4, 18, 19, 20, 21, 22, 23, 24, 25, 26, 7, 6, 27, 28, 29, 30, 31, 32, 33, 34, 8, 9, 10, 11, 35, 36, 37, 38, 39, 40, 41, 42, 43, 44, 45, 46, 47, 48, 49, 50, 51, 52, 53, 54, 55, 56, 57, 58, 59, 60, 61, 62, 63, 64, 65, 66, 67, 68, 69, 70, 71, 72, 73, 74, 75, 76, 77, 78, 79, 80, 81, 82] (by decide +kernel) (by decide +kernel)
set_option maxRecDepth 20000 in
theorem gX9_firstOf_X9_kindIn : GoodIn wsX9_firstOf (wsV RX9 113 RX9 yX9_kindIn wsX9_kindIn) := goodIn_app (goodIn_of _ (by decide +kernel)) ggX9_firstOf_X9_kindIn
theorem dX9_firstOf_0 : decode cX9_firstOf 0 = .ok (.iconst 0, 1) := by decide +kernel
theorem dX9_firstOf_1 : decode cX9_firstOf 1 = .ok (.istore 4, 2) := by decide +kernel
theorem dX9_firstOf_3 : decode cX9_firstOf 3 = .ok (.iload 4, 2) := by decide +kernel
theorem dX9_firstOf_5 : decode cX9_firstOf 5 = .ok (.aload_n 0, 1) := by decide +kernel
theorem dX9_firstOf_6 : decode cX9_firstOf 6 = .ok (.invokevirtual 70, 3) := by decide +kernel
theorem dX9_firstOf_9 : decode cX9_firstOf 9 = .ok (.if_icmp .ge 23, 3) := by decide +kernel
theorem dX9_firstOf_12 : decode cX9_firstOf 12 = .ok (.aload_n 0, 1) := by decide +kernel
theorem dX9_firstOf_13 : decode cX9_firstOf 13 = .ok (.iload 4, 2) := by decide +kernel
theorem dX9_firstOf_15 : decode cX9_firstOf 15 = .ok (.lload_n 2, 1) := by decide +kernel
theorem dX9_firstOf_16 : decode cX9_firstOf 16 = .ok (.invokevirtual 113, 3) := by decide +kernel
theorem dX9_firstOf_19 : decode cX9_firstOf 19 = .ok (.iload_n 1, 1) := by decide +kernel
theorem dX9_firstOf_20 : decode cX9_firstOf 20 = .ok (.if_icmp .ne 6, 3) := by decide +kernel
theorem dX9_firstOf_23 : decode cX9_firstOf 23 = .ok (.iload 4, 2) := by decide +kernel
theorem dX9_firstOf_25 : decode cX9_firstOf 25 = .ok (.ireturn, 1) := by decide +kernel
theorem dX9_firstOf_26 : decode cX9_firstOf 26 = .ok (.iinc 4 1, 3) := by decide +kernel
theorem dX9_firstOf_29 : decode cX9_firstOf 29 = .ok (.goto (-26), 3) := by decide +kernel
theorem dX9_firstOf_32 : decode cX9_firstOf 32 = .ok (.iconst (-1), 1) := by decide +kernel
theorem dX9_firstOf_33 : decode cX9_firstOf 33 = .ok (.ireturn, 1) := by decide +kernel
set_option maxRecDepth 20000 in
theorem ggX9_howMany_X9_all : GoodIn wsX9_howMany wsX9_all := goodIn_r _ [5, 6, 7, 8, 9, 10, 4, 11, 58, 59, 60, 61, 62, 63, 64, 65, 66, 67, 68, 69, 70, 71, 72, 73, 74, 75, 76, 77, 78, 79, 80, 81, 82] (by decide +kernel) (by decide +kernel)
set_option maxRecDepth 20000 in
theorem gX9_howMany_X9_all : GoodIn wsX9_howMany (wsV RX9 70 RX9 yX9_all wsX9_all) := goodIn_app (goodIn_of _ (by decide +kernel)) ggX9_howMany_X9_all
set_option maxRecDepth 20000 in
theorem ggX9_howMany_X9_kindIn : GoodIn wsX9_howMany wsX9_kindIn := goodIn_r _ [15, 16, 17, 4, 18, 19, 20, 21, 22, 23, 24, 25, 26, 7, 6, 27, 28, 29, 30, 31, 32, 33, 34, 8, 9, 10, 11, 35, 36, 37, 38, 39, 40, 41, 42, 43, 44, 45, 46, 47, 48, 49, 50, 51, 52, 53, 54, 55, 56, 57, 58, 59, 60, 61, 62, 63, 64, 65, 66, 67, 68, 69, 70, 71, 72, 73, 74, 75, 76, 77, 78, 79, 80, 81, 82] (by decide +kernel) (by decide +kernel)
set_option maxRecDepth 20000 in
theorem gX9_howMany_X9_kindIn : GoodIn wsX9_howMany (wsV RX9 113 RX9 yX9_kindIn wsX9_kindIn) := goodIn_app (goodIn_of _ (by decide +kernel)) ggX9_howMany_X9_kindIn
theorem dX9_howMany_0 : decode cX9_howMany 0 = .ok (.iconst 0, 1) := by decide +kernel
theorem dX9_howMany_1 : decode cX9_howMany 1 = .ok (.istore 4, 2) := by decide +kernel
theorem dX9_howMany_3 : decode cX9_howMany 3 = .ok (.iconst 0, 1) := by decide +kernel
theorem dX9_howMany_4 : decode cX9_howMany 4 = .ok (.istore 5, 2) := by decide +kernel
theorem dX9_howMany_6 : decode cX9_howMany 6 = .ok (.iload 5, 2) := by decide +kernel
theorem dX9_howMany_8 : decode cX9_howMany 8 = .ok (.aload_n 0, 1) := by decide +kernel
theorem dX9_howMany_9 : decode cX9_howMany 9 = .ok (.invokevirtual 70, 3) := by decide +kernel
theorem dX9_howMany_12 : decode cX9_howMany 12 = .ok (.if_icmp .ge 30, 3) := by decide +kernel
theorem dX9_howMany_15 : decode cX9_howMany 15 = .ok (.iload 4, 2) := by decide +kernel
theorem dX9_howMany_17 : decode cX9_howMany 17 = .ok (.aload_n 0, 1) := by decide +kernel
theorem dX9_howMany_18 : decode cX9_howMany 18 = .ok (.iload 5, 2) := by decide +kernel
theorem dX9_howMany_20 : decode cX9_howMany 20 = .ok (.lload_n 2, 1) := by decide +kernel
theorem dX9_howMany_21 : decode cX9_howMany 21 = .ok (.invokevirtual 113, 3) := by decide +kernel
theorem dX9_howMany_24 : decode cX9_howMany 24 = .ok (.iload_n 1, 1) := by decide +kernel
theorem dX9_howMany_25 : decode cX9_howMany 25 = .ok (.if_icmp .ne 7, 3) := by decide +kernel
theorem dX9_howMany_28 : decode cX9_howMany 28 = .ok (.iconst 1, 1) := by decide +kernel
theorem dX9_howMany_29 : decode cX9_howMany 29 = .ok (.goto 4, 3) := by decide +kernel
theorem dX9_howMany_32 : decode cX9_howMany 32 = .ok (.iconst 0, 1) := by decide +kernel
theorem dX9_howMany_33 : decode cX9_howMany 33 = .ok (.iadd, 1) := by decide +kernel
theorem dX9_howMany_34 : decode cX9_howMany 34 = .ok (.istore 4, 2) := by decide +kernel
theorem dX9_howMany_36 : decode cX9_howMany 36 = .ok (.iinc 5 1, 3) := by decide +kernel
theorem dX9_howMany_39 : decode cX9_howMany 39 = .ok (.goto (-33), 3) := by decide +kernel
theorem dX9_howMany_42 : decode cX9_howMany 42 = .ok (.iload 4, 2) := by decide +kernel
theorem dX9_howMany_44 : decode cX9_howMany 44 = .ok (.ireturn, 1) := by decide +kernel
set_option maxRecDepth 20000 in
theorem ggX9_runOf_X9_firstOf : GoodIn wsX9_runOf wsX9_firstOf := goodIn_r _ [5, 6, 7, 8, 4, 9, 10, 11, 12, 13, 14, 15, 16, 17, 18, 19, 20, 21, 22, 23, 24, 25, 26, 27, 28, 29, 30, 31, 32, 33, 34, 35, 36, 37, 38, 39, 40, 41, 42, 43, 44, 45, 46, 47, 48, 49, 50, 51, 52, 53, 54, 55, 56, 57, 58, 59, 60, 61, 62, 63, 64, 65, 66, 67, 68, 69, 70, 71, 72, 73, 74, 75, 76, 77, 78, 79, 80, 81, 82, 83, 84, 85, 86] (by decide +kernel) (by decide +kernel)
set_option maxRecDepth 20000 in
theorem gX9_runOf_X9_firstOf : GoodIn wsX9_runOf (wsV RX9 116 RX9 yX9_firstOf wsX9_firstOf) := goodIn_app (goodIn_of _ (by decide +kernel)) ggX9_runOf_X9_firstOf
set_option maxRecDepth 20000 in
theorem ggX9_runOf_X9_gains : GoodIn wsX9_runOf wsX9_gains := goodIn_r _ [26, 27, 28, 29, 4, 30, 11, 10, 31, 32, 33, 34, 35, 36, 37, 38, 12, 13, 14, 15, 39, 40, 41, 42, 43, 44, 45, 46, 47, 48, 49, 50, 51, 52, 53, 54, 55, 56, 57, 20, 21, 22, 62, 63, 64, 65, 66, 67, 68, 69, 70, 71, 72, 73, 74, 75, 76, 77, 78, 79, 80, 81, 82, 83, 84, 85, 86] (by decide +kernel) (by decide +kernel)
set_option maxRecDepth 20000 in
theorem gX9_runOf_X9_gains : GoodIn wsX9_runOf (wsV RX9 106 RX9 yX9_gains wsX9_gains) := goodIn_app (goodIn_of _ (by decide +kernel)) ggX9_runOf_X9_gains
theorem dX9_runOf_0 : decode cX9_runOf 0 = .ok (.lload_n 1, 1) := by decide +kernel
theorem dX9_runOf_1 : decode cX9_runOf 1 = .ok (.lstore_n 3, 1) := by decide +kernel
theorem dX9_runOf_2 : decode cX9_runOf 2 = .ok (.iconst 0, 1) := by decide +kernel
theorem dX9_runOf_3 : decode cX9_runOf 3 = .ok (.istore 5, 2) := by decide +kernel
theorem dX9_runOf_5 : decode cX9_runOf 5 = .ok (.aload_n 0, 1) := by decide +kernel
theorem dX9_runOf_6 : decode cX9_runOf 6 = .ok (.iconst 1, 1) := by decide +kernel
theorem dX9_runOf_7 : decode cX9_runOf 7 = .ok (.lload_n 3, 1) := by decide +kernel
theorem dX9_runOf_8 : decode cX9_runOf 8 = .ok (.invokevirtual 116, 3) := by decide +kernel
theorem dX9_runOf_11 : decode cX9_runOf 11 = .ok (.istore 6, 2) := by decide +kernel
theorem dX9_runOf_13 : decode cX9_runOf 13 = .ok (.iload 6, 2) := by decide +kernel
theorem dX9_runOf_15 : decode cX9_runOf 15 = .ok (.iconst (-1), 1) := by decide +kernel
theorem dX9_runOf_16 : decode cX9_runOf 16 = .ok (.if_icmp .eq 33, 3) := by decide +kernel
theorem dX9_runOf_19 : decode cX9_runOf 19 = .ok (.iload 5, 2) := by decide +kernel
theorem dX9_runOf_21 : decode cX9_runOf 21 = .ok (.aload_n 0, 1) := by decide +kernel
theorem dX9_runOf_22 : decode cX9_runOf 22 = .ok (.iload 6, 2) := by decide +kernel
theorem dX9_runOf_24 : decode cX9_runOf 24 = .ok (.lload_n 3, 1) := by decide +kernel
theorem dX9_runOf_25 : decode cX9_runOf 25 = .ok (.invokevirtual 106, 3) := by decide +kernel
theorem dX9_runOf_28 : decode cX9_runOf 28 = .ok (.iadd, 1) := by decide +kernel
theorem dX9_runOf_29 : decode cX9_runOf 29 = .ok (.istore 5, 2) := by decide +kernel
theorem dX9_runOf_31 : decode cX9_runOf 31 = .ok (.lload_n 3, 1) := by decide +kernel
theorem dX9_runOf_32 : decode cX9_runOf 32 = .ok (.lconst 1, 1) := by decide +kernel
theorem dX9_runOf_33 : decode cX9_runOf 33 = .ok (.iload 6, 2) := by decide +kernel
theorem dX9_runOf_35 : decode cX9_runOf 35 = .ok (.lshl, 1) := by decide +kernel
theorem dX9_runOf_36 : decode cX9_runOf 36 = .ok (.lor, 1) := by decide +kernel
theorem dX9_runOf_37 : decode cX9_runOf 37 = .ok (.lstore_n 3, 1) := by decide +kernel
theorem dX9_runOf_38 : decode cX9_runOf 38 = .ok (.aload_n 0, 1) := by decide +kernel
theorem dX9_runOf_39 : decode cX9_runOf 39 = .ok (.iconst 1, 1) := by decide +kernel
theorem dX9_runOf_40 : decode cX9_runOf 40 = .ok (.lload_n 3, 1) := by decide +kernel
theorem dX9_runOf_41 : decode cX9_runOf 41 = .ok (.invokevirtual 116, 3) := by decide +kernel
theorem dX9_runOf_44 : decode cX9_runOf 44 = .ok (.istore 6, 2) := by decide +kernel
theorem dX9_runOf_46 : decode cX9_runOf 46 = .ok (.goto (-33), 3) := by decide +kernel
theorem dX9_runOf_49 : decode cX9_runOf 49 = .ok (.iload 5, 2) := by decide +kernel
theorem dX9_runOf_51 : decode cX9_runOf 51 = .ok (.ireturn, 1) := by decide +kernel
set_option maxRecDepth 20000 in
theorem ggX9_complete_X9_boxes : GoodIn wsX9_complete wsX9_boxes := goodIn_r _ [5, 6, 7, 27, 28, 29, 30, 31, 32, 33, 34, 35, 36, 37, 38, 39, 40, 41, 42, 43, 44, 45, 46, 47, 48, 49, 50, 51] (by decide +kernel) (by decide +kernel)
set_option maxRecDepth 20000 in
theorem gX9_complete_X9_boxes : GoodIn wsX9_complete (wsV RX9 77 RX9 yX9_boxes wsX9_boxes) := goodIn_app (goodIn_of _ (by decide +kernel)) ggX9_complete_X9_boxes
set_option maxRecDepth 20000 in
theorem ggX9_complete_X9_openOf : GoodIn wsX9_complete wsX9_openOf := goodIn_r _ [11, 12, 13, 14, 4, 15, 6, 16, 17, 18, 19, 20, 21, 22, 23, 7, 24, 25, 26, 27, 28, 29, 30, 31, 32, 33, 34, 35, 36, 37, 38, 39, 40, 41, 42, 43, 44, 45, 46, 47, 48, 49, 50, 51] (by decide +kernel) (by decide +kernel)
set_option maxRecDepth 20000 in
theorem gX9_complete_X9_openOf : GoodIn wsX9_complete (wsV RX9 102 RX9 yX9_openOf wsX9_openOf) := goodIn_app (goodIn_of _ (by decide +kernel)) ggX9_complete_X9_openOf
theorem dX9_complete_0 : decode cX9_complete 0 = .ok (.iconst 0, 1) := by decide +kernel
theorem dX9_complete_1 : decode cX9_complete 1 = .ok (.istore_n 3, 1) := by decide +kernel
theorem dX9_complete_2 : decode cX9_complete 2 = .ok (.iconst 0, 1) := by decide +kernel
theorem dX9_complete_3 : decode cX9_complete 3 = .ok (.istore 4, 2) := by decide +kernel
theorem dX9_complete_5 : decode cX9_complete 5 = .ok (.iload 4, 2) := by decide +kernel
theorem dX9_complete_7 : decode cX9_complete 7 = .ok (.aload_n 0, 1) := by decide +kernel
theorem dX9_complete_8 : decode cX9_complete 8 = .ok (.invokevirtual 77, 3) := by decide +kernel
theorem dX9_complete_11 : decode cX9_complete 11 = .ok (.if_icmp .ge 27, 3) := by decide +kernel
theorem dX9_complete_14 : decode cX9_complete 14 = .ok (.iload_n 3, 1) := by decide +kernel
theorem dX9_complete_15 : decode cX9_complete 15 = .ok (.aload_n 0, 1) := by decide +kernel
theorem dX9_complete_16 : decode cX9_complete 16 = .ok (.iload 4, 2) := by decide +kernel
theorem dX9_complete_18 : decode cX9_complete 18 = .ok (.lload_n 1, 1) := by decide +kernel
theorem dX9_complete_19 : decode cX9_complete 19 = .ok (.invokevirtual 102, 3) := by decide +kernel
theorem dX9_complete_22 : decode cX9_complete 22 = .ok (.ifCond .ne 7, 3) := by decide +kernel
theorem dX9_complete_25 : decode cX9_complete 25 = .ok (.iconst 1, 1) := by decide +kernel
theorem dX9_complete_26 : decode cX9_complete 26 = .ok (.goto 4, 3) := by decide +kernel
theorem dX9_complete_29 : decode cX9_complete 29 = .ok (.iconst 0, 1) := by decide +kernel
theorem dX9_complete_30 : decode cX9_complete 30 = .ok (.iadd, 1) := by decide +kernel
theorem dX9_complete_31 : decode cX9_complete 31 = .ok (.istore_n 3, 1) := by decide +kernel
theorem dX9_complete_32 : decode cX9_complete 32 = .ok (.iinc 4 1, 3) := by decide +kernel
theorem dX9_complete_35 : decode cX9_complete 35 = .ok (.goto (-30), 3) := by decide +kernel
theorem dX9_complete_38 : decode cX9_complete 38 = .ok (.iload_n 3, 1) := by decide +kernel
theorem dX9_complete_39 : decode cX9_complete 39 = .ok (.ireturn, 1) := by decide +kernel
theorem dX9_clear_0 : decode cX9_clear 0 = .ok (.aload_n 0, 1) := by decide +kernel
theorem dX9_clear_1 : decode cX9_clear 1 = .ok (.iload_n 1, 1) := by decide +kernel
theorem dX9_clear_2 : decode cX9_clear 2 = .ok (.putfield 7, 3) := by decide +kernel
theorem dX9_clear_5 : decode cX9_clear 5 = .ok (.aload_n 0, 1) := by decide +kernel
theorem dX9_clear_6 : decode cX9_clear 6 = .ok (.iload_n 2, 1) := by decide +kernel
theorem dX9_clear_7 : decode cX9_clear 7 = .ok (.putfield 13, 3) := by decide +kernel
theorem dX9_clear_10 : decode cX9_clear 10 = .ok (.aload_n 0, 1) := by decide +kernel
theorem dX9_clear_11 : decode cX9_clear 11 = .ok (.lconst 0, 1) := by decide +kernel
theorem dX9_clear_12 : decode cX9_clear 12 = .ok (.putfield 119, 3) := by decide +kernel
theorem dX9_clear_15 : decode cX9_clear 15 = .ok (.aload_n 0, 1) := by decide +kernel
theorem dX9_clear_16 : decode cX9_clear 16 = .ok (.iconst 0, 1) := by decide +kernel
theorem dX9_clear_17 : decode cX9_clear 17 = .ok (.putfield 123, 3) := by decide +kernel
theorem dX9_clear_20 : decode cX9_clear 20 = .ok (.aload_n 0, 1) := by decide +kernel
theorem dX9_clear_21 : decode cX9_clear 21 = .ok (.iconst 0, 1) := by decide +kernel
theorem dX9_clear_22 : decode cX9_clear 22 = .ok (.putfield 126, 3) := by decide +kernel
theorem dX9_clear_25 : decode cX9_clear 25 = .ok (.iconst 0, 1) := by decide +kernel
theorem dX9_clear_26 : decode cX9_clear 26 = .ok (.istore_n 3, 1) := by decide +kernel
theorem dX9_clear_27 : decode cX9_clear 27 = .ok (.iload_n 3, 1) := by decide +kernel
theorem dX9_clear_28 : decode cX9_clear 28 = .ok (.bipush 16, 2) := by decide +kernel
theorem dX9_clear_30 : decode cX9_clear 30 = .ok (.if_icmp .ge 16, 3) := by decide +kernel
theorem dX9_clear_33 : decode cX9_clear 33 = .ok (.aload_n 0, 1) := by decide +kernel
theorem dX9_clear_34 : decode cX9_clear 34 = .ok (.getfield 23, 3) := by decide +kernel
theorem dX9_clear_37 : decode cX9_clear 37 = .ok (.iload_n 3, 1) := by decide +kernel
theorem dX9_clear_38 : decode cX9_clear 38 = .ok (.iconst (-1), 1) := by decide +kernel
theorem dX9_clear_39 : decode cX9_clear 39 = .ok (.iastore, 1) := by decide +kernel
theorem dX9_clear_40 : decode cX9_clear 40 = .ok (.iinc 3 1, 3) := by decide +kernel
theorem dX9_clear_43 : decode cX9_clear 43 = .ok (.goto (-16), 3) := by decide +kernel
theorem dX9_clear_46 : decode cX9_clear 46 = .ok (.return_, 1) := by decide +kernel
set_option maxRecDepth 20000 in
theorem ggX9_begin_X9_within : GoodIn wsX9_begin wsX9_within := goodIn_r _ [5] (by decide +kernel) (by decide +kernel)
set_option maxRecDepth 20000 in
theorem gX9_begin_X9_within : GoodIn wsX9_begin (va_wsS RX9 73 yX9_within wsX9_within) := goodIn_app (goodIn_of _ (by decide +kernel)) ggX9_begin_X9_within
set_option maxRecDepth 20000 in
theorem ggX9_begin_X9_clear : GoodIn wsX9_begin wsX9_clear := goodIn_r _ [9, 10, 11, 12, 13, 14, 15, 24, 25, 26, 27, 28, 29, 30, 31, 32, 33, 34, 35, 36, 37, 38, 39, 40, 41, 42, 43, 44, 45, 46, 47, 48] (by decide +kernel) (by decide +kernel)
set_option maxRecDepth 20000 in
theorem gX9_begin_X9_clear : GoodIn wsX9_begin (wsV RX9 55 RX9 yX9_clear wsX9_clear) := goodIn_app (goodIn_of _ (by decide +kernel)) ggX9_begin_X9_clear
set_option maxRecDepth 20000 in
theorem ggX9_begin_X9_all : GoodIn wsX9_begin wsX9_all := goodIn_r _ [19, 11, 10, 20, 21, 22, 4, 23, 24, 25, 26, 27, 28, 29, 30, 31, 32, 33, 34, 35, 36, 37, 38, 39, 40, 41, 42, 43, 44, 45, 46, 47, 48] (by decide +kernel) (by decide +kernel)
set_option maxRecDepth 20000 in
theorem gX9_begin_X9_all : GoodIn wsX9_begin (wsV RX9 70 RX9 yX9_all wsX9_all) := goodIn_app (goodIn_of _ (by decide +kernel)) ggX9_begin_X9_all
theorem dX9_begin_0 : decode cX9_begin 0 = .ok (.aload_n 0, 1) := by decide +kernel
theorem dX9_begin_1 : decode cX9_begin 1 = .ok (.iload_n 1, 1) := by decide +kernel
theorem dX9_begin_2 : decode cX9_begin 2 = .ok (.iconst 1, 1) := by decide +kernel
theorem dX9_begin_3 : decode cX9_begin 3 = .ok (.iconst 4, 1) := by decide +kernel
theorem dX9_begin_4 : decode cX9_begin 4 = .ok (.invokestatic 73, 3) := by decide +kernel
theorem dX9_begin_7 : decode cX9_begin 7 = .ok (.ifCond .eq 16, 3) := by decide +kernel
theorem dX9_begin_10 : decode cX9_begin 10 = .ok (.iload_n 2, 1) := by decide +kernel
theorem dX9_begin_11 : decode cX9_begin 11 = .ok (.iconst 1, 1) := by decide +kernel
theorem dX9_begin_12 : decode cX9_begin 12 = .ok (.iconst 4, 1) := by decide +kernel
theorem dX9_begin_13 : decode cX9_begin 13 = .ok (.invokestatic 73, 3) := by decide +kernel
theorem dX9_begin_16 : decode cX9_begin 16 = .ok (.ifCond .eq 7, 3) := by decide +kernel
theorem dX9_begin_19 : decode cX9_begin 19 = .ok (.iconst 0, 1) := by decide +kernel
theorem dX9_begin_20 : decode cX9_begin 20 = .ok (.goto 4, 3) := by decide +kernel
theorem dX9_begin_23 : decode cX9_begin 23 = .ok (.iconst 1, 1) := by decide +kernel
theorem dX9_begin_24 : decode cX9_begin 24 = .ok (.putfield 59, 3) := by decide +kernel
theorem dX9_begin_27 : decode cX9_begin 27 = .ok (.aload_n 0, 1) := by decide +kernel
theorem dX9_begin_28 : decode cX9_begin 28 = .ok (.getfield 59, 3) := by decide +kernel
theorem dX9_begin_31 : decode cX9_begin 31 = .ok (.ifCond .le 5, 3) := by decide +kernel
theorem dX9_begin_34 : decode cX9_begin 34 = .ok (.iconst 0, 1) := by decide +kernel
theorem dX9_begin_35 : decode cX9_begin 35 = .ok (.ireturn, 1) := by decide +kernel
theorem dX9_begin_36 : decode cX9_begin 36 = .ok (.aload_n 0, 1) := by decide +kernel
theorem dX9_begin_37 : decode cX9_begin 37 = .ok (.iload_n 1, 1) := by decide +kernel
theorem dX9_begin_38 : decode cX9_begin 38 = .ok (.iload_n 2, 1) := by decide +kernel
theorem dX9_begin_39 : decode cX9_begin 39 = .ok (.invokevirtual 55, 3) := by decide +kernel
theorem dX9_begin_42 : decode cX9_begin 42 = .ok (.aload_n 0, 1) := by decide +kernel
theorem dX9_begin_43 : decode cX9_begin 43 = .ok (.invokevirtual 70, 3) := by decide +kernel
theorem dX9_begin_46 : decode cX9_begin 46 = .ok (.ireturn, 1) := by decide +kernel
set_option maxRecDepth 20000 in
theorem ggX9_make_X9_gains : GoodIn wsX9_make wsX9_gains := goodIn_r _ [11, 12, 13, 14, 10, 15, 16, 17, 18, 19, 20, 21, 22, 23, 24, 25, 26, 27, 28, 29, 30, 31, 32, 33, 34, 35, 36, 37, 38, 39, 40, 41, 42, 43, 44, 45, 46, 47, 48, 49, 50, 51, 52, 53, 54, 55, 56, 57, 58, 59, 60, 61, 62, 63, 64, 65, 66, 67, 68, 69, 70, 71, 72, 73, 74, 75, 76] (by decide +kernel) (by decide +kernel)
set_option maxRecDepth 20000 in
theorem gX9_make_X9_gains : GoodIn wsX9_make (wsV RX9 106 RX9 yX9_gains wsX9_gains) := goodIn_app (goodIn_of _ (by decide +kernel)) ggX9_make_X9_gains
set_option maxRecDepth 20000 in
theorem ggX9_make_X9_beside : GoodIn wsX9_make wsX9_beside := goodIn_r _ [15, 16, 17, 18, 19, 20, 10, 21, 22, 23, 24, 25, 26, 27, 28, 29, 30, 31, 32, 33, 34, 35, 36, 52, 53, 54, 55, 56, 57, 58, 59, 60, 61, 62, 63, 64, 65, 66, 67, 68, 69, 70, 71, 72, 73, 74, 75, 76] (by decide +kernel) (by decide +kernel)
set_option maxRecDepth 20000 in
theorem gX9_make_X9_beside : GoodIn wsX9_make (wsV RX9 99 RX9 yX9_beside wsX9_beside) := goodIn_app (goodIn_of _ (by decide +kernel)) ggX9_make_X9_beside
set_option maxRecDepth 20000 in
theorem ggX9_make_X9_openOf : GoodIn wsX9_make wsX9_openOf := goodIn_r _ [40, 41, 42, 43, 10, 44, 16, 45, 46, 47, 48, 26, 27, 28, 29, 17, 49, 50, 51, 52, 53, 54, 55, 56, 57, 58, 59, 60, 61, 62, 63, 64, 65, 66, 67, 68, 69, 70, 71, 72, 73, 74, 75, 76] (by decide +kernel) (by decide +kernel)
set_option maxRecDepth 20000 in
theorem gX9_make_X9_openOf : GoodIn wsX9_make (wsV RX9 102 RX9 yX9_openOf wsX9_openOf) := goodIn_app (goodIn_of _ (by decide +kernel)) ggX9_make_X9_openOf
theorem dX9_make_0 : decode cX9_make 0 = .ok (.aload_n 0, 1) := by decide +kernel
theorem dX9_make_1 : decode cX9_make 1 = .ok (.iload_n 1, 1) := by decide +kernel
theorem dX9_make_2 : decode cX9_make 2 = .ok (.aload_n 0, 1) := by decide +kernel
theorem dX9_make_3 : decode cX9_make 3 = .ok (.getfield 119, 3) := by decide +kernel
theorem dX9_make_6 : decode cX9_make 6 = .ok (.invokevirtual 106, 3) := by decide +kernel
theorem dX9_make_9 : decode cX9_make 9 = .ok (.istore_n 2, 1) := by decide +kernel
theorem dX9_make_10 : decode cX9_make 10 = .ok (.aload_n 0, 1) := by decide +kernel
theorem dX9_make_11 : decode cX9_make 11 = .ok (.dup, 1) := by decide +kernel
theorem dX9_make_12 : decode cX9_make 12 = .ok (.getfield 119, 3) := by decide +kernel
theorem dX9_make_15 : decode cX9_make 15 = .ok (.lconst 1, 1) := by decide +kernel
theorem dX9_make_16 : decode cX9_make 16 = .ok (.iload_n 1, 1) := by decide +kernel
theorem dX9_make_17 : decode cX9_make 17 = .ok (.lshl, 1) := by decide +kernel
theorem dX9_make_18 : decode cX9_make 18 = .ok (.lor, 1) := by decide +kernel
theorem dX9_make_19 : decode cX9_make 19 = .ok (.putfield 119, 3) := by decide +kernel
theorem dX9_make_22 : decode cX9_make 22 = .ok (.iconst 0, 1) := by decide +kernel
theorem dX9_make_23 : decode cX9_make 23 = .ok (.istore_n 3, 1) := by decide +kernel
theorem dX9_make_24 : decode cX9_make 24 = .ok (.iload_n 3, 1) := by decide +kernel
theorem dX9_make_25 : decode cX9_make 25 = .ok (.iconst 2, 1) := by decide +kernel
theorem dX9_make_26 : decode cX9_make 26 = .ok (.if_icmp .ge 47, 3) := by decide +kernel
theorem dX9_make_29 : decode cX9_make 29 = .ok (.aload_n 0, 1) := by decide +kernel
theorem dX9_make_30 : decode cX9_make 30 = .ok (.iload_n 1, 1) := by decide +kernel
theorem dX9_make_31 : decode cX9_make 31 = .ok (.iload_n 3, 1) := by decide +kernel
theorem dX9_make_32 : decode cX9_make 32 = .ok (.invokevirtual 99, 3) := by decide +kernel
theorem dX9_make_35 : decode cX9_make 35 = .ok (.istore 4, 2) := by decide +kernel
theorem dX9_make_37 : decode cX9_make 37 = .ok (.iload 4, 2) := by decide +kernel
theorem dX9_make_39 : decode cX9_make 39 = .ok (.iconst (-1), 1) := by decide +kernel
theorem dX9_make_40 : decode cX9_make 40 = .ok (.if_icmp .eq 27, 3) := by decide +kernel
theorem dX9_make_43 : decode cX9_make 43 = .ok (.aload_n 0, 1) := by decide +kernel
theorem dX9_make_44 : decode cX9_make 44 = .ok (.iload 4, 2) := by decide +kernel
theorem dX9_make_46 : decode cX9_make 46 = .ok (.aload_n 0, 1) := by decide +kernel
theorem dX9_make_47 : decode cX9_make 47 = .ok (.getfield 119, 3) := by decide +kernel
theorem dX9_make_50 : decode cX9_make 50 = .ok (.invokevirtual 102, 3) := by decide +kernel
theorem dX9_make_53 : decode cX9_make 53 = .ok (.ifCond .ne 14, 3) := by decide +kernel
theorem dX9_make_56 : decode cX9_make 56 = .ok (.aload_n 0, 1) := by decide +kernel
theorem dX9_make_57 : decode cX9_make 57 = .ok (.getfield 23, 3) := by decide +kernel
theorem dX9_make_60 : decode cX9_make 60 = .ok (.iload 4, 2) := by decide +kernel
theorem dX9_make_62 : decode cX9_make 62 = .ok (.aload_n 0, 1) := by decide +kernel
theorem dX9_make_63 : decode cX9_make 63 = .ok (.getfield 123, 3) := by decide +kernel
theorem dX9_make_66 : decode cX9_make 66 = .ok (.iastore, 1) := by decide +kernel
theorem dX9_make_67 : decode cX9_make 67 = .ok (.iinc 3 1, 3) := by decide +kernel
theorem dX9_make_70 : decode cX9_make 70 = .ok (.goto (-46), 3) := by decide +kernel
theorem dX9_make_73 : decode cX9_make 73 = .ok (.aload_n 0, 1) := by decide +kernel
theorem dX9_make_74 : decode cX9_make 74 = .ok (.getfield 16, 3) := by decide +kernel
theorem dX9_make_77 : decode cX9_make 77 = .ok (.aload_n 0, 1) := by decide +kernel
theorem dX9_make_78 : decode cX9_make 78 = .ok (.getfield 126, 3) := by decide +kernel
theorem dX9_make_81 : decode cX9_make 81 = .ok (.iload_n 1, 1) := by decide +kernel
theorem dX9_make_82 : decode cX9_make 82 = .ok (.iastore, 1) := by decide +kernel
theorem dX9_make_83 : decode cX9_make 83 = .ok (.aload_n 0, 1) := by decide +kernel
theorem dX9_make_84 : decode cX9_make 84 = .ok (.getfield 20, 3) := by decide +kernel
theorem dX9_make_87 : decode cX9_make 87 = .ok (.aload_n 0, 1) := by decide +kernel
theorem dX9_make_88 : decode cX9_make 88 = .ok (.getfield 126, 3) := by decide +kernel
theorem dX9_make_91 : decode cX9_make 91 = .ok (.aload_n 0, 1) := by decide +kernel
theorem dX9_make_92 : decode cX9_make 92 = .ok (.getfield 123, 3) := by decide +kernel
theorem dX9_make_95 : decode cX9_make 95 = .ok (.iastore, 1) := by decide +kernel
theorem dX9_make_96 : decode cX9_make 96 = .ok (.aload_n 0, 1) := by decide +kernel
theorem dX9_make_97 : decode cX9_make 97 = .ok (.dup, 1) := by decide +kernel
theorem dX9_make_98 : decode cX9_make 98 = .ok (.getfield 126, 3) := by decide +kernel
theorem dX9_make_101 : decode cX9_make 101 = .ok (.iconst 1, 1) := by decide +kernel
theorem dX9_make_102 : decode cX9_make 102 = .ok (.iadd, 1) := by decide +kernel
theorem dX9_make_103 : decode cX9_make 103 = .ok (.putfield 126, 3) := by decide +kernel
theorem dX9_make_106 : decode cX9_make 106 = .ok (.aload_n 0, 1) := by decide +kernel
theorem dX9_make_107 : decode cX9_make 107 = .ok (.iload_n 2, 1) := by decide +kernel
theorem dX9_make_108 : decode cX9_make 108 = .ok (.ifCond .le 10, 3) := by decide +kernel
theorem dX9_make_111 : decode cX9_make 111 = .ok (.aload_n 0, 1) := by decide +kernel
theorem dX9_make_112 : decode cX9_make 112 = .ok (.getfield 123, 3) := by decide +kernel
theorem dX9_make_115 : decode cX9_make 115 = .ok (.goto 9, 3) := by decide +kernel
theorem dX9_make_118 : decode cX9_make 118 = .ok (.iconst 1, 1) := by decide +kernel
theorem dX9_make_119 : decode cX9_make 119 = .ok (.aload_n 0, 1) := by decide +kernel
theorem dX9_make_120 : decode cX9_make 120 = .ok (.getfield 123, 3) := by decide +kernel
theorem dX9_make_123 : decode cX9_make 123 = .ok (.isub, 1) := by decide +kernel
theorem dX9_make_124 : decode cX9_make 124 = .ok (.putfield 123, 3) := by decide +kernel
theorem dX9_make_127 : decode cX9_make 127 = .ok (.iload_n 2, 1) := by decide +kernel
theorem dX9_make_128 : decode cX9_make 128 = .ok (.ireturn, 1) := by decide +kernel
set_option maxRecDepth 20000 in
theorem ggX9_draw_X9_isLine : GoodIn wsX9_draw wsX9_isLine := goodIn_r _ [7, 8, 9, 10, 6, 11, 12, 13, 14, 15, 16, 17, 18, 19, 20, 65, 66, 67, 68, 69, 70, 71, 72, 73, 74, 75, 76, 77, 78, 79, 80, 81, 82, 83, 84, 85, 86, 87, 88, 89] (by decide +kernel) (by decide +kernel)
set_option maxRecDepth 20000 in
theorem gX9_draw_X9_isLine : GoodIn wsX9_draw (wsV RX9 129 RX9 yX9_isLine wsX9_isLine) := goodIn_app (goodIn_of _ (by decide +kernel)) ggX9_draw_X9_isLine
set_option maxRecDepth 20000 in
theorem ggX9_draw_X9_has : GoodIn wsX9_draw wsX9_has := goodIn_r _ [23] (by decide +kernel) (by decide +kernel)
set_option maxRecDepth 20000 in
theorem gX9_draw_X9_has : GoodIn wsX9_draw (va_wsS RX9 62 yX9_has wsX9_has) := goodIn_app (goodIn_of _ (by decide +kernel)) ggX9_draw_X9_has
set_option maxRecDepth 20000 in
theorem ggX9_draw_X9_make : GoodIn wsX9_draw wsX9_make := goodIn_r _ [27, 1, 28, 29, 30, 31, 32, 33, 34, 35, 6, 36, 37, 38, 39, 40, 13, 12, 41, 42, 43, 44, 45, 46, 47, 48, 14, 15, 16, 17, 49, 50, 51, 52, 18, 19, 20, 53, 54, 55, 56, 57, 58, 59, 60, 61, 62, 63, 64, 21, 22, 23, 65, 66, 67, 68, 69, 70, 71, 72, 73, 74, 75, 76, 77, 78, 79, 80, 81, 82, 83, 84, 85, 86, 87, 88, 89] (by decide +kernel) (by decide +kernel)
set_option maxRecDepth 20000 in
theorem gX9_draw_X9_make : GoodIn wsX9_draw (wsV RX9 132 RX9 yX9_make wsX9_make) := goodIn_app (goodIn_of _ (by decide +kernel)) ggX9_draw_X9_make
theorem dX9_draw_0 : decode cX9_draw 0 = .ok (.aload_n 0, 1) := by decide +kernel
theorem dX9_draw_1 : decode cX9_draw 1 = .ok (.aload_n 0, 1) := by decide +kernel
theorem dX9_draw_2 : decode cX9_draw 2 = .ok (.iload_n 1, 1) := by decide +kernel
theorem dX9_draw_3 : decode cX9_draw 3 = .ok (.invokevirtual 129, 3) := by decide +kernel
theorem dX9_draw_6 : decode cX9_draw 6 = .ok (.ifCond .ne 7, 3) := by decide +kernel
theorem dX9_draw_9 : decode cX9_draw 9 = .ok (.iconst 1, 1) := by decide +kernel
theorem dX9_draw_10 : decode cX9_draw 10 = .ok (.goto 19, 3) := by decide +kernel
theorem dX9_draw_13 : decode cX9_draw 13 = .ok (.aload_n 0, 1) := by decide +kernel
theorem dX9_draw_14 : decode cX9_draw 14 = .ok (.getfield 119, 3) := by decide +kernel
theorem dX9_draw_17 : decode cX9_draw 17 = .ok (.iload_n 1, 1) := by decide +kernel
theorem dX9_draw_18 : decode cX9_draw 18 = .ok (.invokestatic 62, 3) := by decide +kernel
theorem dX9_draw_21 : decode cX9_draw 21 = .ok (.ifCond .eq 7, 3) := by decide +kernel
theorem dX9_draw_24 : decode cX9_draw 24 = .ok (.iconst 2, 1) := by decide +kernel
theorem dX9_draw_25 : decode cX9_draw 25 = .ok (.goto 4, 3) := by decide +kernel
theorem dX9_draw_28 : decode cX9_draw 28 = .ok (.iconst 0, 1) := by decide +kernel
theorem dX9_draw_29 : decode cX9_draw 29 = .ok (.putfield 59, 3) := by decide +kernel
theorem dX9_draw_32 : decode cX9_draw 32 = .ok (.aload_n 0, 1) := by decide +kernel
theorem dX9_draw_33 : decode cX9_draw 33 = .ok (.getfield 59, 3) := by decide +kernel
theorem dX9_draw_36 : decode cX9_draw 36 = .ok (.ifCond .le 7, 3) := by decide +kernel
theorem dX9_draw_39 : decode cX9_draw 39 = .ok (.iconst 0, 1) := by decide +kernel
theorem dX9_draw_40 : decode cX9_draw 40 = .ok (.goto 8, 3) := by decide +kernel
theorem dX9_draw_43 : decode cX9_draw 43 = .ok (.aload_n 0, 1) := by decide +kernel
theorem dX9_draw_44 : decode cX9_draw 44 = .ok (.iload_n 1, 1) := by decide +kernel
theorem dX9_draw_45 : decode cX9_draw 45 = .ok (.invokevirtual 132, 3) := by decide +kernel
theorem dX9_draw_48 : decode cX9_draw 48 = .ok (.ireturn, 1) := by decide +kernel
set_option maxRecDepth 20000 in
theorem ggX9_undo_X9_beside : GoodIn wsX9_undo wsX9_beside := goodIn_r _ [13, 14, 15, 16, 17, 18, 12, 19, 20, 21, 22, 23, 24, 25, 26, 27, 28, 29, 30, 31, 32, 33, 34, 35, 36, 37, 38, 39, 40, 41, 42, 43, 44, 45, 46, 47, 48, 49, 50, 51, 52, 53, 54, 55, 56, 57, 58, 59] (by decide +kernel) (by decide +kernel)
set_option maxRecDepth 20000 in
theorem gX9_undo_X9_beside : GoodIn wsX9_undo (wsV RX9 99 RX9 yX9_beside wsX9_beside) := goodIn_app (goodIn_of _ (by decide +kernel)) ggX9_undo_X9_beside
theorem dX9_undo_0 : decode cX9_undo 0 = .ok (.aload_n 0, 1) := by decide +kernel
theorem dX9_undo_1 : decode cX9_undo 1 = .ok (.aload_n 0, 1) := by decide +kernel
theorem dX9_undo_2 : decode cX9_undo 2 = .ok (.getfield 126, 3) := by decide +kernel
theorem dX9_undo_5 : decode cX9_undo 5 = .ok (.ifCond .le 7, 3) := by decide +kernel
theorem dX9_undo_8 : decode cX9_undo 8 = .ok (.iconst 0, 1) := by decide +kernel
theorem dX9_undo_9 : decode cX9_undo 9 = .ok (.goto 4, 3) := by decide +kernel
theorem dX9_undo_12 : decode cX9_undo 12 = .ok (.iconst 1, 1) := by decide +kernel
theorem dX9_undo_13 : decode cX9_undo 13 = .ok (.putfield 59, 3) := by decide +kernel
theorem dX9_undo_16 : decode cX9_undo 16 = .ok (.aload_n 0, 1) := by decide +kernel
theorem dX9_undo_17 : decode cX9_undo 17 = .ok (.getfield 59, 3) := by decide +kernel
theorem dX9_undo_20 : decode cX9_undo 20 = .ok (.ifCond .le 5, 3) := by decide +kernel
theorem dX9_undo_23 : decode cX9_undo 23 = .ok (.iconst 0, 1) := by decide +kernel
theorem dX9_undo_24 : decode cX9_undo 24 = .ok (.ireturn, 1) := by decide +kernel
theorem dX9_undo_25 : decode cX9_undo 25 = .ok (.aload_n 0, 1) := by decide +kernel
theorem dX9_undo_26 : decode cX9_undo 26 = .ok (.dup, 1) := by decide +kernel
theorem dX9_undo_27 : decode cX9_undo 27 = .ok (.getfield 126, 3) := by decide +kernel
theorem dX9_undo_30 : decode cX9_undo 30 = .ok (.iconst 1, 1) := by decide +kernel
theorem dX9_undo_31 : decode cX9_undo 31 = .ok (.isub, 1) := by decide +kernel
theorem dX9_undo_32 : decode cX9_undo 32 = .ok (.putfield 126, 3) := by decide +kernel
theorem dX9_undo_35 : decode cX9_undo 35 = .ok (.aload_n 0, 1) := by decide +kernel
theorem dX9_undo_36 : decode cX9_undo 36 = .ok (.getfield 16, 3) := by decide +kernel
theorem dX9_undo_39 : decode cX9_undo 39 = .ok (.aload_n 0, 1) := by decide +kernel
theorem dX9_undo_40 : decode cX9_undo 40 = .ok (.getfield 126, 3) := by decide +kernel
theorem dX9_undo_43 : decode cX9_undo 43 = .ok (.iaload, 1) := by decide +kernel
theorem dX9_undo_44 : decode cX9_undo 44 = .ok (.istore_n 1, 1) := by decide +kernel
theorem dX9_undo_45 : decode cX9_undo 45 = .ok (.aload_n 0, 1) := by decide +kernel
theorem dX9_undo_46 : decode cX9_undo 46 = .ok (.aload_n 0, 1) := by decide +kernel
theorem dX9_undo_47 : decode cX9_undo 47 = .ok (.getfield 20, 3) := by decide +kernel
theorem dX9_undo_50 : decode cX9_undo 50 = .ok (.aload_n 0, 1) := by decide +kernel
theorem dX9_undo_51 : decode cX9_undo 51 = .ok (.getfield 126, 3) := by decide +kernel
theorem dX9_undo_54 : decode cX9_undo 54 = .ok (.iaload, 1) := by decide +kernel
theorem dX9_undo_55 : decode cX9_undo 55 = .ok (.putfield 123, 3) := by decide +kernel
theorem dX9_undo_58 : decode cX9_undo 58 = .ok (.aload_n 0, 1) := by decide +kernel
theorem dX9_undo_59 : decode cX9_undo 59 = .ok (.dup, 1) := by decide +kernel
theorem dX9_undo_60 : decode cX9_undo 60 = .ok (.getfield 119, 3) := by decide +kernel
theorem dX9_undo_63 : decode cX9_undo 63 = .ok (.lconst 1, 1) := by decide +kernel
theorem dX9_undo_64 : decode cX9_undo 64 = .ok (.iload_n 1, 1) := by decide +kernel
theorem dX9_undo_65 : decode cX9_undo 65 = .ok (.lshl, 1) := by decide +kernel
theorem dX9_undo_66 : decode cX9_undo 66 = .ok (.ldc2_w 135, 3) := by decide +kernel
theorem dX9_undo_69 : decode cX9_undo 69 = .ok (.lxor, 1) := by decide +kernel
theorem dX9_undo_70 : decode cX9_undo 70 = .ok (.land, 1) := by decide +kernel
theorem dX9_undo_71 : decode cX9_undo 71 = .ok (.putfield 119, 3) := by decide +kernel
theorem dX9_undo_74 : decode cX9_undo 74 = .ok (.iconst 0, 1) := by decide +kernel
theorem dX9_undo_75 : decode cX9_undo 75 = .ok (.istore_n 2, 1) := by decide +kernel
theorem dX9_undo_76 : decode cX9_undo 76 = .ok (.iload_n 2, 1) := by decide +kernel
theorem dX9_undo_77 : decode cX9_undo 77 = .ok (.iconst 2, 1) := by decide +kernel
theorem dX9_undo_78 : decode cX9_undo 78 = .ok (.if_icmp .ge 28, 3) := by decide +kernel
theorem dX9_undo_81 : decode cX9_undo 81 = .ok (.aload_n 0, 1) := by decide +kernel
theorem dX9_undo_82 : decode cX9_undo 82 = .ok (.iload_n 1, 1) := by decide +kernel
theorem dX9_undo_83 : decode cX9_undo 83 = .ok (.iload_n 2, 1) := by decide +kernel
theorem dX9_undo_84 : decode cX9_undo 84 = .ok (.invokevirtual 99, 3) := by decide +kernel
theorem dX9_undo_87 : decode cX9_undo 87 = .ok (.istore_n 3, 1) := by decide +kernel
theorem dX9_undo_88 : decode cX9_undo 88 = .ok (.iload_n 3, 1) := by decide +kernel
theorem dX9_undo_89 : decode cX9_undo 89 = .ok (.iconst (-1), 1) := by decide +kernel
theorem dX9_undo_90 : decode cX9_undo 90 = .ok (.if_icmp .eq 10, 3) := by decide +kernel
theorem dX9_undo_93 : decode cX9_undo 93 = .ok (.aload_n 0, 1) := by decide +kernel
theorem dX9_undo_94 : decode cX9_undo 94 = .ok (.getfield 23, 3) := by decide +kernel
theorem dX9_undo_97 : decode cX9_undo 97 = .ok (.iload_n 3, 1) := by decide +kernel
theorem dX9_undo_98 : decode cX9_undo 98 = .ok (.iconst (-1), 1) := by decide +kernel
theorem dX9_undo_99 : decode cX9_undo 99 = .ok (.iastore, 1) := by decide +kernel
theorem dX9_undo_100 : decode cX9_undo 100 = .ok (.iinc 2 1, 3) := by decide +kernel
theorem dX9_undo_103 : decode cX9_undo 103 = .ok (.goto (-27), 3) := by decide +kernel
theorem dX9_undo_106 : decode cX9_undo 106 = .ok (.iload_n 1, 1) := by decide +kernel
theorem dX9_undo_107 : decode cX9_undo 107 = .ok (.ireturn, 1) := by decide +kernel
set_option maxRecDepth 20000 in
theorem ggX9_isStyle_X9_within : GoodIn wsX9_isStyle wsX9_within := goodIn_r _ [4] (by decide +kernel) (by decide +kernel)
set_option maxRecDepth 20000 in
theorem gX9_isStyle_X9_within : GoodIn wsX9_isStyle (va_wsS RX9 73 yX9_within wsX9_within) := goodIn_app (goodIn_of _ (by decide +kernel)) ggX9_isStyle_X9_within
theorem dX9_isStyle_0 : decode cX9_isStyle 0 = .ok (.iload_n 0, 1) := by decide +kernel
theorem dX9_isStyle_1 : decode cX9_isStyle 1 = .ok (.iconst 0, 1) := by decide +kernel
theorem dX9_isStyle_2 : decode cX9_isStyle 2 = .ok (.iconst 2, 1) := by decide +kernel
theorem dX9_isStyle_3 : decode cX9_isStyle 3 = .ok (.invokestatic 73, 3) := by decide +kernel
theorem dX9_isStyle_6 : decode cX9_isStyle 6 = .ok (.ireturn, 1) := by decide +kernel
set_option maxRecDepth 20000 in
theorem ggX9_follow_X9_isStyle : GoodIn wsX9_follow wsX9_isStyle := goodIn_r _ [6, 7, 8, 5, 9] (by decide +kernel) (by decide +kernel)
set_option maxRecDepth 20000 in
theorem gX9_follow_X9_isStyle : GoodIn wsX9_follow (va_wsS RX9 137 yX9_isStyle wsX9_isStyle) := goodIn_app (goodIn_of _ (by decide +kernel)) ggX9_follow_X9_isStyle
set_option maxRecDepth 20000 in
theorem ggX9_follow_X9_within : GoodIn wsX9_follow wsX9_within := goodIn_r _ [9] (by decide +kernel) (by decide +kernel)
set_option maxRecDepth 20000 in
theorem gX9_follow_X9_within : GoodIn wsX9_follow (va_wsS RX9 73 yX9_within wsX9_within) := goodIn_app (goodIn_of _ (by decide +kernel)) ggX9_follow_X9_within
set_option maxRecDepth 20000 in
theorem ggX9_follow_X9_size : GoodIn wsX9_follow wsX9_size := goodIn_r _ [12, 13, 14, 5, 15] (by decide +kernel) (by decide +kernel)
set_option maxRecDepth 20000 in
theorem gX9_follow_X9_size : GoodIn wsX9_follow (va_wsS RX9 140 yX9_size wsX9_size) := goodIn_app (goodIn_of _ (by decide +kernel)) ggX9_follow_X9_size
set_option maxRecDepth 20000 in
theorem ggX9_follow_X9_all : GoodIn wsX9_follow wsX9_all := goodIn_r _ [19, 20, 21, 22, 23, 24, 5, 25, 142, 143, 144, 145, 146, 147, 148, 149, 150, 151, 152, 153, 154, 155, 156, 157, 158, 159, 160, 161, 162, 163, 164, 165, 166] (by decide +kernel) (by decide +kernel)
set_option maxRecDepth 20000 in
theorem gX9_follow_X9_all : GoodIn wsX9_follow (wsV RX9 70 RX9 yX9_all wsX9_all) := goodIn_app (goodIn_of _ (by decide +kernel)) ggX9_follow_X9_all
set_option maxRecDepth 20000 in
theorem ggX9_follow_X9_choice : GoodIn wsX9_follow wsX9_choice := goodIn_r _ [29, 30, 31, 32, 5, 33, 34, 35, 36, 37, 16, 17, 18, 19, 20, 21, 22, 23, 24, 25, 38, 39, 40, 41, 13, 14, 15, 42, 43, 44, 45, 46, 47, 48, 49, 50, 51, 52, 53, 54, 55, 56, 57, 58, 59, 60, 61, 7, 8, 9, 62, 63, 64, 65, 66, 67, 68, 69, 70, 71, 72, 73, 74, 75, 76, 77, 78, 79, 80, 81, 82, 83, 84, 85, 86, 87, 88, 89, 10, 11, 12, 90, 91, 92, 93, 94, 95, 96, 97, 98, 99, 100, 101, 102, 103, 104, 105, 106, 107, 108, 109, 110, 111, 112, 113, 114, 115, 116, 117, 118, 119, 120, 121, 122, 123, 124, 125, 126, 127, 128, 129, 130, 131, 132, 142, 143, 144, 145, 146, 147, 148, 149, 150, 151, 152, 153, 154, 155, 156, 157, 158, 159, 160, 161, 162, 163, 164, 165, 166] (by decide +kernel) (by decide +kernel)
set_option maxRecDepth 20000 in
theorem gX9_follow_X9_choice : GoodIn wsX9_follow (wsV RX9 144 RX9 yX9_choice wsX9_choice) := goodIn_app (goodIn_of _ (by decide +kernel)) ggX9_follow_X9_choice
set_option maxRecDepth 20000 in
theorem ggX9_follow_X9_make : GoodIn wsX9_follow wsX9_make := goodIn_r _ [136, 2, 137, 138, 139, 140, 141, 42, 43, 44, 5, 45, 46, 47, 48, 49, 21, 20, 50, 51, 52, 53, 54, 55, 56, 57, 22, 23, 24, 25, 58, 59, 60, 61, 7, 8, 9, 62, 63, 64, 65, 66, 67, 68, 69, 70, 71, 72, 73, 13, 14, 15, 142, 143, 144, 145, 146, 147, 148, 149, 150, 151, 152, 153, 154, 155, 156, 157, 158, 159, 160, 161, 162, 163, 164, 165, 166] (by decide +kernel) (by decide +kernel)
set_option maxRecDepth 20000 in
theorem gX9_follow_X9_make : GoodIn wsX9_follow (wsV RX9 132 RX9 yX9_make wsX9_make) := goodIn_app (goodIn_of _ (by decide +kernel)) ggX9_follow_X9_make
theorem dX9_follow_0 : decode cX9_follow 0 = .ok (.aload_n 0, 1) := by decide +kernel
theorem dX9_follow_1 : decode cX9_follow 1 = .ok (.iload_n 1, 1) := by decide +kernel
theorem dX9_follow_2 : decode cX9_follow 2 = .ok (.invokestatic 137, 3) := by decide +kernel
theorem dX9_follow_5 : decode cX9_follow 5 = .ok (.ifCond .eq 17, 3) := by decide +kernel
theorem dX9_follow_8 : decode cX9_follow 8 = .ok (.iload_n 2, 1) := by decide +kernel
theorem dX9_follow_9 : decode cX9_follow 9 = .ok (.iconst 1, 1) := by decide +kernel
theorem dX9_follow_10 : decode cX9_follow 10 = .ok (.bipush 40, 2) := by decide +kernel
theorem dX9_follow_12 : decode cX9_follow 12 = .ok (.invokestatic 73, 3) := by decide +kernel
theorem dX9_follow_15 : decode cX9_follow 15 = .ok (.ifCond .eq 7, 3) := by decide +kernel
theorem dX9_follow_18 : decode cX9_follow 18 = .ok (.iconst 0, 1) := by decide +kernel
theorem dX9_follow_19 : decode cX9_follow 19 = .ok (.goto 4, 3) := by decide +kernel
theorem dX9_follow_22 : decode cX9_follow 22 = .ok (.iconst 1, 1) := by decide +kernel
theorem dX9_follow_23 : decode cX9_follow 23 = .ok (.putfield 59, 3) := by decide +kernel
theorem dX9_follow_26 : decode cX9_follow 26 = .ok (.aload_n 0, 1) := by decide +kernel
theorem dX9_follow_27 : decode cX9_follow 27 = .ok (.getfield 59, 3) := by decide +kernel
theorem dX9_follow_30 : decode cX9_follow 30 = .ok (.ifCond .le 5, 3) := by decide +kernel
theorem dX9_follow_33 : decode cX9_follow 33 = .ok (.iconst 0, 1) := by decide +kernel
theorem dX9_follow_34 : decode cX9_follow 34 = .ok (.ireturn, 1) := by decide +kernel
theorem dX9_follow_35 : decode cX9_follow 35 = .ok (.iconst 0, 1) := by decide +kernel
theorem dX9_follow_36 : decode cX9_follow 36 = .ok (.istore_n 3, 1) := by decide +kernel
theorem dX9_follow_37 : decode cX9_follow 37 = .ok (.iload_n 3, 1) := by decide +kernel
theorem dX9_follow_38 : decode cX9_follow 38 = .ok (.iload_n 2, 1) := by decide +kernel
theorem dX9_follow_39 : decode cX9_follow 39 = .ok (.if_icmp .ge 37, 3) := by decide +kernel
theorem dX9_follow_42 : decode cX9_follow 42 = .ok (.aload_n 0, 1) := by decide +kernel
theorem dX9_follow_43 : decode cX9_follow 43 = .ok (.getfield 119, 3) := by decide +kernel
theorem dX9_follow_46 : decode cX9_follow 46 = .ok (.invokestatic 140, 3) := by decide +kernel
theorem dX9_follow_49 : decode cX9_follow 49 = .ok (.aload_n 0, 1) := by decide +kernel
theorem dX9_follow_50 : decode cX9_follow 50 = .ok (.invokevirtual 70, 3) := by decide +kernel
theorem dX9_follow_53 : decode cX9_follow 53 = .ok (.if_icmp .ge 23, 3) := by decide +kernel
theorem dX9_follow_56 : decode cX9_follow 56 = .ok (.aload_n 0, 1) := by decide +kernel
theorem dX9_follow_57 : decode cX9_follow 57 = .ok (.aload_n 0, 1) := by decide +kernel
theorem dX9_follow_58 : decode cX9_follow 58 = .ok (.iload_n 1, 1) := by decide +kernel
theorem dX9_follow_59 : decode cX9_follow 59 = .ok (.aload_n 0, 1) := by decide +kernel
theorem dX9_follow_60 : decode cX9_follow 60 = .ok (.getfield 119, 3) := by decide +kernel
theorem dX9_follow_63 : decode cX9_follow 63 = .ok (.invokevirtual 144, 3) := by decide +kernel
theorem dX9_follow_66 : decode cX9_follow 66 = .ok (.invokevirtual 132, 3) := by decide +kernel
theorem dX9_follow_69 : decode cX9_follow 69 = .ok (.pop, 1) := by decide +kernel
theorem dX9_follow_70 : decode cX9_follow 70 = .ok (.iinc 3 1, 3) := by decide +kernel
theorem dX9_follow_73 : decode cX9_follow 73 = .ok (.goto (-36), 3) := by decide +kernel
theorem dX9_follow_76 : decode cX9_follow 76 = .ok (.iload_n 3, 1) := by decide +kernel
theorem dX9_follow_77 : decode cX9_follow 77 = .ok (.ireturn, 1) := by decide +kernel
set_option maxRecDepth 20000 in
theorem ggX9_append_X9_within : GoodIn wsX9_append wsX9_within := goodIn_r _ [7] (by decide +kernel) (by decide +kernel)
set_option maxRecDepth 20000 in
theorem gX9_append_X9_within : GoodIn wsX9_append (va_wsS RX9 73 yX9_within wsX9_within) := goodIn_app (goodIn_of _ (by decide +kernel)) ggX9_append_X9_within
theorem dX9_append_0 : decode cX9_append 0 = .ok (.aload_n 0, 1) := by decide +kernel
theorem dX9_append_1 : decode cX9_append 1 = .ok (.iload_n 1, 1) := by decide +kernel
theorem dX9_append_2 : decode cX9_append 2 = .ok (.bipush 32, 2) := by decide +kernel
theorem dX9_append_4 : decode cX9_append 4 = .ok (.bipush 126, 2) := by decide +kernel
theorem dX9_append_6 : decode cX9_append 6 = .ok (.invokestatic 73, 3) := by decide +kernel
theorem dX9_append_9 : decode cX9_append 9 = .ok (.ifCond .ne 7, 3) := by decide +kernel
theorem dX9_append_12 : decode cX9_append 12 = .ok (.iconst 1, 1) := by decide +kernel
theorem dX9_append_13 : decode cX9_append 13 = .ok (.goto 17, 3) := by decide +kernel
theorem dX9_append_16 : decode cX9_append 16 = .ok (.aload_n 0, 1) := by decide +kernel
theorem dX9_append_17 : decode cX9_append 17 = .ok (.getfield 147, 3) := by decide +kernel
theorem dX9_append_20 : decode cX9_append 20 = .ok (.bipush 60, 2) := by decide +kernel
theorem dX9_append_22 : decode cX9_append 22 = .ok (.if_icmp .ne 7, 3) := by decide +kernel
theorem dX9_append_25 : decode cX9_append 25 = .ok (.iconst 2, 1) := by decide +kernel
theorem dX9_append_26 : decode cX9_append 26 = .ok (.goto 4, 3) := by decide +kernel
theorem dX9_append_29 : decode cX9_append 29 = .ok (.iconst 0, 1) := by decide +kernel
theorem dX9_append_30 : decode cX9_append 30 = .ok (.putfield 59, 3) := by decide +kernel
theorem dX9_append_33 : decode cX9_append 33 = .ok (.aload_n 0, 1) := by decide +kernel
theorem dX9_append_34 : decode cX9_append 34 = .ok (.getfield 59, 3) := by decide +kernel
theorem dX9_append_37 : decode cX9_append 37 = .ok (.ifCond .le 5, 3) := by decide +kernel
theorem dX9_append_40 : decode cX9_append 40 = .ok (.iconst 0, 1) := by decide +kernel
theorem dX9_append_41 : decode cX9_append 41 = .ok (.ireturn, 1) := by decide +kernel
theorem dX9_append_42 : decode cX9_append 42 = .ok (.aload_n 0, 1) := by decide +kernel
theorem dX9_append_43 : decode cX9_append 43 = .ok (.getfield 26, 3) := by decide +kernel
theorem dX9_append_46 : decode cX9_append 46 = .ok (.aload_n 0, 1) := by decide +kernel
theorem dX9_append_47 : decode cX9_append 47 = .ok (.getfield 147, 3) := by decide +kernel
theorem dX9_append_50 : decode cX9_append 50 = .ok (.iload_n 1, 1) := by decide +kernel
theorem dX9_append_51 : decode cX9_append 51 = .ok (.iastore, 1) := by decide +kernel
theorem dX9_append_52 : decode cX9_append 52 = .ok (.aload_n 0, 1) := by decide +kernel
theorem dX9_append_53 : decode cX9_append 53 = .ok (.dup, 1) := by decide +kernel
theorem dX9_append_54 : decode cX9_append 54 = .ok (.getfield 147, 3) := by decide +kernel
theorem dX9_append_57 : decode cX9_append 57 = .ok (.iconst 1, 1) := by decide +kernel
theorem dX9_append_58 : decode cX9_append 58 = .ok (.iadd, 1) := by decide +kernel
theorem dX9_append_59 : decode cX9_append 59 = .ok (.putfield 147, 3) := by decide +kernel
theorem dX9_append_62 : decode cX9_append 62 = .ok (.aload_n 0, 1) := by decide +kernel
theorem dX9_append_63 : decode cX9_append 63 = .ok (.getfield 147, 3) := by decide +kernel
theorem dX9_append_66 : decode cX9_append 66 = .ok (.ireturn, 1) := by decide +kernel
theorem dX9_clearInput_0 : decode cX9_clearInput 0 = .ok (.aload_n 0, 1) := by decide +kernel
theorem dX9_clearInput_1 : decode cX9_clearInput 1 = .ok (.iconst 0, 1) := by decide +kernel
theorem dX9_clearInput_2 : decode cX9_clearInput 2 = .ok (.putfield 59, 3) := by decide +kernel
theorem dX9_clearInput_5 : decode cX9_clearInput 5 = .ok (.aload_n 0, 1) := by decide +kernel
theorem dX9_clearInput_6 : decode cX9_clearInput 6 = .ok (.getfield 147, 3) := by decide +kernel
theorem dX9_clearInput_9 : decode cX9_clearInput 9 = .ok (.istore_n 1, 1) := by decide +kernel
theorem dX9_clearInput_10 : decode cX9_clearInput 10 = .ok (.aload_n 0, 1) := by decide +kernel
theorem dX9_clearInput_11 : decode cX9_clearInput 11 = .ok (.iconst 0, 1) := by decide +kernel
theorem dX9_clearInput_12 : decode cX9_clearInput 12 = .ok (.putfield 147, 3) := by decide +kernel
theorem dX9_clearInput_15 : decode cX9_clearInput 15 = .ok (.iload_n 1, 1) := by decide +kernel
theorem dX9_clearInput_16 : decode cX9_clearInput 16 = .ok (.ireturn, 1) := by decide +kernel
set_option maxRecDepth 20000 in
theorem ggX9_fits_X9_exists : GoodIn wsX9_fits wsX9_exists := goodIn_r _ [6, 7, 8, 9, 10, 5, 11, 12, 13, 14, 15, 16, 17, 18, 19, 20, 21, 22, 23, 24, 25, 26, 27, 28, 29, 30, 31, 32, 33, 34, 35, 36] (by decide +kernel) (by decide +kernel)
set_option maxRecDepth 20000 in
theorem gX9_fits_X9_exists : GoodIn wsX9_fits (wsV RX9 150 RX9 yX9_exists wsX9_exists) := goodIn_app (goodIn_of _ (by decide +kernel)) ggX9_fits_X9_exists
theorem dX9_fits_0 : decode cX9_fits 0 = .ok (.aload_n 0, 1) := by decide +kernel
theorem dX9_fits_1 : decode cX9_fits 1 = .ok (.getfield 26, 3) := by decide +kernel
theorem dX9_fits_4 : decode cX9_fits 4 = .ok (.iload_n 1, 1) := by decide +kernel
theorem dX9_fits_5 : decode cX9_fits 5 = .ok (.iaload, 1) := by decide +kernel
theorem dX9_fits_6 : decode cX9_fits 6 = .ok (.istore_n 2, 1) := by decide +kernel
theorem dX9_fits_7 : decode cX9_fits 7 = .ok (.iload_n 2, 1) := by decide +kernel
theorem dX9_fits_8 : decode cX9_fits 8 = .ok (.bipush 48, 2) := by decide +kernel
theorem dX9_fits_10 : decode cX9_fits 10 = .ok (.isub, 1) := by decide +kernel
theorem dX9_fits_11 : decode cX9_fits 11 = .ok (.istore_n 3, 1) := by decide +kernel
theorem dX9_fits_12 : decode cX9_fits 12 = .ok (.iload_n 1, 1) := by decide +kernel
theorem dX9_fits_13 : decode cX9_fits 13 = .ok (.iconst 4, 1) := by decide +kernel
theorem dX9_fits_14 : decode cX9_fits 14 = .ok (.irem, 1) := by decide +kernel
theorem dX9_fits_15 : decode cX9_fits 15 = .ok (.ifCond .le 22, 3) := by decide +kernel
theorem dX9_fits_18 : decode cX9_fits 18 = .ok (.aload_n 0, 1) := by decide +kernel
theorem dX9_fits_19 : decode cX9_fits 19 = .ok (.getfield 26, 3) := by decide +kernel
theorem dX9_fits_22 : decode cX9_fits 22 = .ok (.iload_n 1, 1) := by decide +kernel
theorem dX9_fits_23 : decode cX9_fits 23 = .ok (.iload_n 1, 1) := by decide +kernel
theorem dX9_fits_24 : decode cX9_fits 24 = .ok (.iconst 4, 1) := by decide +kernel
theorem dX9_fits_25 : decode cX9_fits 25 = .ok (.irem, 1) := by decide +kernel
theorem dX9_fits_26 : decode cX9_fits 26 = .ok (.isub, 1) := by decide +kernel
theorem dX9_fits_27 : decode cX9_fits 27 = .ok (.iaload, 1) := by decide +kernel
theorem dX9_fits_28 : decode cX9_fits 28 = .ok (.bipush 118, 2) := by decide +kernel
theorem dX9_fits_30 : decode cX9_fits 30 = .ok (.if_icmp .ne 7, 3) := by decide +kernel
theorem dX9_fits_33 : decode cX9_fits 33 = .ok (.iconst 1, 1) := by decide +kernel
theorem dX9_fits_34 : decode cX9_fits 34 = .ok (.goto 4, 3) := by decide +kernel
theorem dX9_fits_37 : decode cX9_fits 37 = .ok (.iconst 0, 1) := by decide +kernel
theorem dX9_fits_38 : decode cX9_fits 38 = .ok (.istore 4, 2) := by decide +kernel
theorem dX9_fits_40 : decode cX9_fits 40 = .ok (.iload_n 1, 1) := by decide +kernel
theorem dX9_fits_41 : decode cX9_fits 41 = .ok (.iconst 4, 1) := by decide +kernel
theorem dX9_fits_42 : decode cX9_fits 42 = .ok (.irem, 1) := by decide +kernel
theorem dX9_fits_43 : decode cX9_fits 43 = .ok (.tableswitch 71 0 2 #[25, 43, 52], 25) := by decide +kernel
theorem dX9_fits_68 : decode cX9_fits 68 = .ok (.iload_n 2, 1) := by decide +kernel
theorem dX9_fits_69 : decode cX9_fits 69 = .ok (.bipush 104, 2) := by decide +kernel
theorem dX9_fits_71 : decode cX9_fits 71 = .ok (.if_icmp .eq 9, 3) := by decide +kernel
theorem dX9_fits_74 : decode cX9_fits 74 = .ok (.iload_n 2, 1) := by decide +kernel
theorem dX9_fits_75 : decode cX9_fits 75 = .ok (.bipush 118, 2) := by decide +kernel
theorem dX9_fits_77 : decode cX9_fits 77 = .ok (.if_icmp .ne 7, 3) := by decide +kernel
theorem dX9_fits_80 : decode cX9_fits 80 = .ok (.iconst 1, 1) := by decide +kernel
theorem dX9_fits_81 : decode cX9_fits 81 = .ok (.goto 4, 3) := by decide +kernel
theorem dX9_fits_84 : decode cX9_fits 84 = .ok (.iconst 0, 1) := by decide +kernel
theorem dX9_fits_85 : decode cX9_fits 85 = .ok (.ireturn, 1) := by decide +kernel
theorem dX9_fits_86 : decode cX9_fits 86 = .ok (.aload_n 0, 1) := by decide +kernel
theorem dX9_fits_87 : decode cX9_fits 87 = .ok (.iload 4, 2) := by decide +kernel
theorem dX9_fits_89 : decode cX9_fits 89 = .ok (.iload_n 3, 1) := by decide +kernel
theorem dX9_fits_90 : decode cX9_fits 90 = .ok (.iconst 0, 1) := by decide +kernel
theorem dX9_fits_91 : decode cX9_fits 91 = .ok (.invokevirtual 150, 3) := by decide +kernel
theorem dX9_fits_94 : decode cX9_fits 94 = .ok (.ireturn, 1) := by decide +kernel
theorem dX9_fits_95 : decode cX9_fits 95 = .ok (.aload_n 0, 1) := by decide +kernel
theorem dX9_fits_96 : decode cX9_fits 96 = .ok (.iload 4, 2) := by decide +kernel
theorem dX9_fits_98 : decode cX9_fits 98 = .ok (.aload_n 0, 1) := by decide +kernel
theorem dX9_fits_99 : decode cX9_fits 99 = .ok (.getfield 26, 3) := by decide +kernel
theorem dX9_fits_102 : decode cX9_fits 102 = .ok (.iload_n 1, 1) := by decide +kernel
theorem dX9_fits_103 : decode cX9_fits 103 = .ok (.iconst 1, 1) := by decide +kernel
theorem dX9_fits_104 : decode cX9_fits 104 = .ok (.isub, 1) := by decide +kernel
theorem dX9_fits_105 : decode cX9_fits 105 = .ok (.iaload, 1) := by decide +kernel
theorem dX9_fits_106 : decode cX9_fits 106 = .ok (.bipush 48, 2) := by decide +kernel
theorem dX9_fits_108 : decode cX9_fits 108 = .ok (.isub, 1) := by decide +kernel
theorem dX9_fits_109 : decode cX9_fits 109 = .ok (.iload_n 3, 1) := by decide +kernel
theorem dX9_fits_110 : decode cX9_fits 110 = .ok (.invokevirtual 150, 3) := by decide +kernel
theorem dX9_fits_113 : decode cX9_fits 113 = .ok (.ireturn, 1) := by decide +kernel
theorem dX9_fits_114 : decode cX9_fits 114 = .ok (.iload_n 2, 1) := by decide +kernel
theorem dX9_fits_115 : decode cX9_fits 115 = .ok (.bipush 44, 2) := by decide +kernel
theorem dX9_fits_117 : decode cX9_fits 117 = .ok (.if_icmp .ne 7, 3) := by decide +kernel
theorem dX9_fits_120 : decode cX9_fits 120 = .ok (.iconst 1, 1) := by decide +kernel
theorem dX9_fits_121 : decode cX9_fits 121 = .ok (.goto 4, 3) := by decide +kernel
theorem dX9_fits_124 : decode cX9_fits 124 = .ok (.iconst 0, 1) := by decide +kernel
theorem dX9_fits_125 : decode cX9_fits 125 = .ok (.ireturn, 1) := by decide +kernel
set_option maxRecDepth 20000 in
theorem ggX9_rightLength_X9_fits : GoodIn wsX9_rightLength wsX9_fits := goodIn_r _ [6, 7, 8, 9, 10, 5, 11, 12, 13, 14, 15, 16, 17, 18, 19, 20, 21, 22, 23, 24, 25, 26, 27, 28, 29, 30, 31, 32, 33, 34, 35, 36, 37, 38, 39, 40, 41] (by decide +kernel) (by decide +kernel)
set_option maxRecDepth 20000 in
theorem gX9_rightLength_X9_fits : GoodIn wsX9_rightLength (wsV RX9 154 RX9 yX9_fits wsX9_fits) := goodIn_app (goodIn_of _ (by decide +kernel)) ggX9_rightLength_X9_fits
theorem dX9_rightLength_0 : decode cX9_rightLength 0 = .ok (.iconst 0, 1) := by decide +kernel
theorem dX9_rightLength_1 : decode cX9_rightLength 1 = .ok (.istore_n 1, 1) := by decide +kernel
theorem dX9_rightLength_2 : decode cX9_rightLength 2 = .ok (.iload_n 1, 1) := by decide +kernel
theorem dX9_rightLength_3 : decode cX9_rightLength 3 = .ok (.aload_n 0, 1) := by decide +kernel
theorem dX9_rightLength_4 : decode cX9_rightLength 4 = .ok (.getfield 147, 3) := by decide +kernel
theorem dX9_rightLength_7 : decode cX9_rightLength 7 = .ok (.if_icmp .ge 17, 3) := by decide +kernel
theorem dX9_rightLength_10 : decode cX9_rightLength 10 = .ok (.aload_n 0, 1) := by decide +kernel
theorem dX9_rightLength_11 : decode cX9_rightLength 11 = .ok (.iload_n 1, 1) := by decide +kernel
theorem dX9_rightLength_12 : decode cX9_rightLength 12 = .ok (.invokevirtual 154, 3) := by decide +kernel
theorem dX9_rightLength_15 : decode cX9_rightLength 15 = .ok (.ifCond .eq 9, 3) := by decide +kernel
theorem dX9_rightLength_18 : decode cX9_rightLength 18 = .ok (.iinc 1 1, 3) := by decide +kernel
theorem dX9_rightLength_21 : decode cX9_rightLength 21 = .ok (.goto (-19), 3) := by decide +kernel
theorem dX9_rightLength_24 : decode cX9_rightLength 24 = .ok (.iload_n 1, 1) := by decide +kernel
theorem dX9_rightLength_25 : decode cX9_rightLength 25 = .ok (.ireturn, 1) := by decide +kernel
set_option maxRecDepth 20000 in
theorem ggX9_firstError_X9_rightLength : GoodIn wsX9_firstError wsX9_rightLength := goodIn_r _ [6, 7, 8, 9, 10, 5, 11, 12, 13, 14, 15, 16, 17, 18, 19, 20, 21, 22, 23, 24, 25, 26, 27, 28, 29, 30, 31, 32, 33, 34, 35, 36, 37, 38, 39, 40, 41, 42, 43, 44, 45, 46] (by decide +kernel) (by decide +kernel)
set_option maxRecDepth 20000 in
theorem gX9_firstError_X9_rightLength : GoodIn wsX9_firstError (wsV RX9 157 RX9 yX9_rightLength wsX9_rightLength) := goodIn_app (goodIn_of _ (by decide +kernel)) ggX9_firstError_X9_rightLength
theorem dX9_firstError_0 : decode cX9_firstError 0 = .ok (.aload_n 0, 1) := by decide +kernel
theorem dX9_firstError_1 : decode cX9_firstError 1 = .ok (.iconst 0, 1) := by decide +kernel
theorem dX9_firstError_2 : decode cX9_firstError 2 = .ok (.putfield 59, 3) := by decide +kernel
theorem dX9_firstError_5 : decode cX9_firstError 5 = .ok (.aload_n 0, 1) := by decide +kernel
theorem dX9_firstError_6 : decode cX9_firstError 6 = .ok (.invokevirtual 157, 3) := by decide +kernel
theorem dX9_firstError_9 : decode cX9_firstError 9 = .ok (.ireturn, 1) := by decide +kernel
set_option maxRecDepth 20000 in
theorem ggX9_lineIn_X9_numberOf : GoodIn wsX9_lineIn wsX9_numberOf := goodIn_r _ [6, 7, 8, 9, 10, 5, 11, 12, 13, 14, 15, 16, 17, 18, 19, 20, 21, 22, 23, 24, 25, 26, 27, 28, 29, 30, 31, 32, 33, 34, 35, 36, 37] (by decide +kernel) (by decide +kernel)
set_option maxRecDepth 20000 in
theorem gX9_lineIn_X9_numberOf : GoodIn wsX9_lineIn (wsV RX9 91 RX9 yX9_numberOf wsX9_numberOf) := goodIn_app (goodIn_of _ (by decide +kernel)) ggX9_lineIn_X9_numberOf
theorem dX9_lineIn_0 : decode cX9_lineIn 0 = .ok (.aload_n 0, 1) := by decide +kernel
theorem dX9_lineIn_1 : decode cX9_lineIn 1 = .ok (.aload_n 0, 1) := by decide +kernel
theorem dX9_lineIn_2 : decode cX9_lineIn 2 = .ok (.getfield 26, 3) := by decide +kernel
theorem dX9_lineIn_5 : decode cX9_lineIn 5 = .ok (.iload_n 1, 1) := by decide +kernel
theorem dX9_lineIn_6 : decode cX9_lineIn 6 = .ok (.iaload, 1) := by decide +kernel
theorem dX9_lineIn_7 : decode cX9_lineIn 7 = .ok (.bipush 118, 2) := by decide +kernel
theorem dX9_lineIn_9 : decode cX9_lineIn 9 = .ok (.if_icmp .ne 7, 3) := by decide +kernel
theorem dX9_lineIn_12 : decode cX9_lineIn 12 = .ok (.iconst 1, 1) := by decide +kernel
theorem dX9_lineIn_13 : decode cX9_lineIn 13 = .ok (.goto 4, 3) := by decide +kernel
theorem dX9_lineIn_16 : decode cX9_lineIn 16 = .ok (.iconst 0, 1) := by decide +kernel
theorem dX9_lineIn_17 : decode cX9_lineIn 17 = .ok (.aload_n 0, 1) := by decide +kernel
theorem dX9_lineIn_18 : decode cX9_lineIn 18 = .ok (.getfield 26, 3) := by decide +kernel
theorem dX9_lineIn_21 : decode cX9_lineIn 21 = .ok (.iload_n 1, 1) := by decide +kernel
theorem dX9_lineIn_22 : decode cX9_lineIn 22 = .ok (.iconst 1, 1) := by decide +kernel
theorem dX9_lineIn_23 : decode cX9_lineIn 23 = .ok (.iadd, 1) := by decide +kernel
theorem dX9_lineIn_24 : decode cX9_lineIn 24 = .ok (.iaload, 1) := by decide +kernel
theorem dX9_lineIn_25 : decode cX9_lineIn 25 = .ok (.bipush 48, 2) := by decide +kernel
theorem dX9_lineIn_27 : decode cX9_lineIn 27 = .ok (.isub, 1) := by decide +kernel
theorem dX9_lineIn_28 : decode cX9_lineIn 28 = .ok (.aload_n 0, 1) := by decide +kernel
theorem dX9_lineIn_29 : decode cX9_lineIn 29 = .ok (.getfield 26, 3) := by decide +kernel
theorem dX9_lineIn_32 : decode cX9_lineIn 32 = .ok (.iload_n 1, 1) := by decide +kernel
theorem dX9_lineIn_33 : decode cX9_lineIn 33 = .ok (.iconst 2, 1) := by decide +kernel
theorem dX9_lineIn_34 : decode cX9_lineIn 34 = .ok (.iadd, 1) := by decide +kernel
theorem dX9_lineIn_35 : decode cX9_lineIn 35 = .ok (.iaload, 1) := by decide +kernel
theorem dX9_lineIn_36 : decode cX9_lineIn 36 = .ok (.bipush 48, 2) := by decide +kernel
theorem dX9_lineIn_38 : decode cX9_lineIn 38 = .ok (.isub, 1) := by decide +kernel
theorem dX9_lineIn_39 : decode cX9_lineIn 39 = .ok (.invokevirtual 91, 3) := by decide +kernel
theorem dX9_lineIn_42 : decode cX9_lineIn 42 = .ok (.ireturn, 1) := by decide +kernel
set_option maxRecDepth 20000 in
theorem ggX9_mayBeDrawn_X9_lineIn : GoodIn wsX9_mayBeDrawn wsX9_lineIn := goodIn_r _ [7, 8, 9, 10, 11, 6, 12, 13, 14, 15, 16, 17, 18, 22, 23, 24, 25, 26, 27, 28, 29, 30, 31, 32, 33, 34, 35, 36, 37, 38, 39, 40, 41, 42, 43, 44, 45, 46] (by decide +kernel) (by decide +kernel)
set_option maxRecDepth 20000 in
theorem gX9_mayBeDrawn_X9_lineIn : GoodIn wsX9_mayBeDrawn (wsV RX9 160 RX9 yX9_lineIn wsX9_lineIn) := goodIn_app (goodIn_of _ (by decide +kernel)) ggX9_mayBeDrawn_X9_lineIn
set_option maxRecDepth 20000 in
theorem ggX9_mayBeDrawn_X9_has : GoodIn wsX9_mayBeDrawn wsX9_has := goodIn_r _ [21] (by decide +kernel) (by decide +kernel)
set_option maxRecDepth 20000 in
theorem gX9_mayBeDrawn_X9_has : GoodIn wsX9_mayBeDrawn (va_wsS RX9 62 yX9_has wsX9_has) := goodIn_app (goodIn_of _ (by decide +kernel)) ggX9_mayBeDrawn_X9_has
theorem dX9_mayBeDrawn_0 : decode cX9_mayBeDrawn 0 = .ok (.aload_n 0, 1) := by decide +kernel
theorem dX9_mayBeDrawn_1 : decode cX9_mayBeDrawn 1 = .ok (.getfield 119, 3) := by decide +kernel
theorem dX9_mayBeDrawn_4 : decode cX9_mayBeDrawn 4 = .ok (.lstore_n 1, 1) := by decide +kernel
theorem dX9_mayBeDrawn_5 : decode cX9_mayBeDrawn 5 = .ok (.iconst 1, 1) := by decide +kernel
theorem dX9_mayBeDrawn_6 : decode cX9_mayBeDrawn 6 = .ok (.istore_n 3, 1) := by decide +kernel
theorem dX9_mayBeDrawn_7 : decode cX9_mayBeDrawn 7 = .ok (.iconst 0, 1) := by decide +kernel
theorem dX9_mayBeDrawn_8 : decode cX9_mayBeDrawn 8 = .ok (.istore 4, 2) := by decide +kernel
theorem dX9_mayBeDrawn_10 : decode cX9_mayBeDrawn 10 = .ok (.iload 4, 2) := by decide +kernel
theorem dX9_mayBeDrawn_12 : decode cX9_mayBeDrawn 12 = .ok (.aload_n 0, 1) := by decide +kernel
theorem dX9_mayBeDrawn_13 : decode cX9_mayBeDrawn 13 = .ok (.getfield 147, 3) := by decide +kernel
theorem dX9_mayBeDrawn_16 : decode cX9_mayBeDrawn 16 = .ok (.if_icmp .ge 43, 3) := by decide +kernel
theorem dX9_mayBeDrawn_19 : decode cX9_mayBeDrawn 19 = .ok (.iload_n 3, 1) := by decide +kernel
theorem dX9_mayBeDrawn_20 : decode cX9_mayBeDrawn 20 = .ok (.ifCond .eq 20, 3) := by decide +kernel
theorem dX9_mayBeDrawn_23 : decode cX9_mayBeDrawn 23 = .ok (.lload_n 1, 1) := by decide +kernel
theorem dX9_mayBeDrawn_24 : decode cX9_mayBeDrawn 24 = .ok (.aload_n 0, 1) := by decide +kernel
theorem dX9_mayBeDrawn_25 : decode cX9_mayBeDrawn 25 = .ok (.iload 4, 2) := by decide +kernel
theorem dX9_mayBeDrawn_27 : decode cX9_mayBeDrawn 27 = .ok (.invokevirtual 160, 3) := by decide +kernel
theorem dX9_mayBeDrawn_30 : decode cX9_mayBeDrawn 30 = .ok (.invokestatic 62, 3) := by decide +kernel
theorem dX9_mayBeDrawn_33 : decode cX9_mayBeDrawn 33 = .ok (.ifCond .ne 7, 3) := by decide +kernel
theorem dX9_mayBeDrawn_36 : decode cX9_mayBeDrawn 36 = .ok (.iconst 1, 1) := by decide +kernel
theorem dX9_mayBeDrawn_37 : decode cX9_mayBeDrawn 37 = .ok (.goto 4, 3) := by decide +kernel
theorem dX9_mayBeDrawn_40 : decode cX9_mayBeDrawn 40 = .ok (.iconst 0, 1) := by decide +kernel
theorem dX9_mayBeDrawn_41 : decode cX9_mayBeDrawn 41 = .ok (.istore_n 3, 1) := by decide +kernel
theorem dX9_mayBeDrawn_42 : decode cX9_mayBeDrawn 42 = .ok (.lload_n 1, 1) := by decide +kernel
theorem dX9_mayBeDrawn_43 : decode cX9_mayBeDrawn 43 = .ok (.lconst 1, 1) := by decide +kernel
theorem dX9_mayBeDrawn_44 : decode cX9_mayBeDrawn 44 = .ok (.aload_n 0, 1) := by decide +kernel
theorem dX9_mayBeDrawn_45 : decode cX9_mayBeDrawn 45 = .ok (.iload 4, 2) := by decide +kernel
theorem dX9_mayBeDrawn_47 : decode cX9_mayBeDrawn 47 = .ok (.invokevirtual 160, 3) := by decide +kernel
theorem dX9_mayBeDrawn_50 : decode cX9_mayBeDrawn 50 = .ok (.lshl, 1) := by decide +kernel
theorem dX9_mayBeDrawn_51 : decode cX9_mayBeDrawn 51 = .ok (.lor, 1) := by decide +kernel
theorem dX9_mayBeDrawn_52 : decode cX9_mayBeDrawn 52 = .ok (.lstore_n 1, 1) := by decide +kernel
theorem dX9_mayBeDrawn_53 : decode cX9_mayBeDrawn 53 = .ok (.iinc 4 4, 3) := by decide +kernel
theorem dX9_mayBeDrawn_56 : decode cX9_mayBeDrawn 56 = .ok (.goto (-46), 3) := by decide +kernel
theorem dX9_mayBeDrawn_59 : decode cX9_mayBeDrawn 59 = .ok (.iload_n 3, 1) := by decide +kernel
theorem dX9_mayBeDrawn_60 : decode cX9_mayBeDrawn 60 = .ok (.ireturn, 1) := by decide +kernel
set_option maxRecDepth 20000 in
theorem ggX9_load_X9_rightLength : GoodIn wsX9_load wsX9_rightLength := goodIn_r _ [7, 1, 8, 9, 10, 6, 11, 12, 13, 14, 15, 16, 17, 18, 19, 20, 21, 79, 80, 81, 82, 83, 84, 85, 86, 87, 88, 89, 90, 91, 92, 93, 94, 95, 96, 97, 98, 99, 100, 101, 102, 103] (by decide +kernel) (by decide +kernel)
set_option maxRecDepth 20000 in
theorem gX9_load_X9_rightLength : GoodIn wsX9_load (wsV RX9 157 RX9 yX9_rightLength wsX9_rightLength) := goodIn_app (goodIn_of _ (by decide +kernel)) ggX9_load_X9_rightLength
set_option maxRecDepth 20000 in
theorem ggX9_load_X9_mayBeDrawn : GoodIn wsX9_load wsX9_mayBeDrawn := goodIn_r _ [25, 26, 1, 27, 28, 29, 6, 30, 12, 31, 32, 33, 34, 17, 35, 36, 37, 38, 18, 39, 40, 41, 79, 80, 81, 82, 83, 84, 85, 86, 87, 88, 89, 90, 91, 92, 93, 94, 95, 96, 97, 98, 99, 100, 101, 102, 103] (by decide +kernel) (by decide +kernel)
set_option maxRecDepth 20000 in
theorem gX9_load_X9_mayBeDrawn : GoodIn wsX9_load (wsV RX9 163 RX9 yX9_mayBeDrawn wsX9_mayBeDrawn) := goodIn_app (goodIn_of _ (by decide +kernel)) ggX9_load_X9_mayBeDrawn
set_option maxRecDepth 20000 in
theorem ggX9_load_X9_lineIn : GoodIn wsX9_load wsX9_lineIn := goodIn_r _ [30, 12, 31, 32, 33, 6, 34, 17, 35, 36, 37, 38, 18, 79, 80, 81, 82, 83, 84, 85, 86, 87, 88, 89, 90, 91, 92, 93, 94, 95, 96, 97, 98, 99, 100, 101, 102, 103] (by decide +kernel) (by decide +kernel)
set_option maxRecDepth 20000 in
theorem gX9_load_X9_lineIn : GoodIn wsX9_load (wsV RX9 160 RX9 yX9_lineIn wsX9_lineIn) := goodIn_app (goodIn_of _ (by decide +kernel)) ggX9_load_X9_lineIn
set_option maxRecDepth 20000 in
theorem ggX9_load_X9_make : GoodIn wsX9_load wsX9_make := goodIn_r _ [45, 26, 46, 47, 48, 49, 50, 51, 52, 53, 6, 54, 55, 56, 57, 58, 17, 18, 59, 60, 61, 62, 63, 64, 65, 66, 35, 36, 37, 38, 67, 68, 69, 70, 19, 20, 21, 71, 72, 73, 74, 75, 76, 77, 78, 31, 32, 33, 34, 39, 40, 41, 79, 80, 81, 82, 83, 84, 85, 86, 87, 88, 89, 90, 91, 92, 93, 94, 95, 96, 97, 98, 99, 100, 101, 102, 103] (by decide +kernel) (by decide +kernel)
set_option maxRecDepth 20000 in
theorem gX9_load_X9_make : GoodIn wsX9_load (wsV RX9 132 RX9 yX9_make wsX9_make) := goodIn_app (goodIn_of _ (by decide +kernel)) ggX9_load_X9_make
theorem dX9_load_0 : decode cX9_load 0 = .ok (.aload_n 0, 1) := by decide +kernel
theorem dX9_load_1 : decode cX9_load 1 = .ok (.invokevirtual 157, 3) := by decide +kernel
theorem dX9_load_4 : decode cX9_load 4 = .ok (.aload_n 0, 1) := by decide +kernel
theorem dX9_load_5 : decode cX9_load 5 = .ok (.getfield 147, 3) := by decide +kernel
theorem dX9_load_8 : decode cX9_load 8 = .ok (.if_icmp .ne 17, 3) := by decide +kernel
theorem dX9_load_11 : decode cX9_load 11 = .ok (.aload_n 0, 1) := by decide +kernel
theorem dX9_load_12 : decode cX9_load 12 = .ok (.getfield 147, 3) := by decide +kernel
theorem dX9_load_15 : decode cX9_load 15 = .ok (.iconst 4, 1) := by decide +kernel
theorem dX9_load_16 : decode cX9_load 16 = .ok (.irem, 1) := by decide +kernel
theorem dX9_load_17 : decode cX9_load 17 = .ok (.iconst 3, 1) := by decide +kernel
theorem dX9_load_18 : decode cX9_load 18 = .ok (.if_icmp .ne 7, 3) := by decide +kernel
theorem dX9_load_21 : decode cX9_load 21 = .ok (.iconst 1, 1) := by decide +kernel
theorem dX9_load_22 : decode cX9_load 22 = .ok (.goto 4, 3) := by decide +kernel
theorem dX9_load_25 : decode cX9_load 25 = .ok (.iconst 0, 1) := by decide +kernel
theorem dX9_load_26 : decode cX9_load 26 = .ok (.istore_n 1, 1) := by decide +kernel
theorem dX9_load_27 : decode cX9_load 27 = .ok (.aload_n 0, 1) := by decide +kernel
theorem dX9_load_28 : decode cX9_load 28 = .ok (.iload_n 1, 1) := by decide +kernel
theorem dX9_load_29 : decode cX9_load 29 = .ok (.ifCond .ne 7, 3) := by decide +kernel
theorem dX9_load_32 : decode cX9_load 32 = .ok (.iconst 1, 1) := by decide +kernel
theorem dX9_load_33 : decode cX9_load 33 = .ok (.goto 15, 3) := by decide +kernel
theorem dX9_load_36 : decode cX9_load 36 = .ok (.aload_n 0, 1) := by decide +kernel
theorem dX9_load_37 : decode cX9_load 37 = .ok (.invokevirtual 163, 3) := by decide +kernel
theorem dX9_load_40 : decode cX9_load 40 = .ok (.ifCond .eq 7, 3) := by decide +kernel
theorem dX9_load_43 : decode cX9_load 43 = .ok (.iconst 0, 1) := by decide +kernel
theorem dX9_load_44 : decode cX9_load 44 = .ok (.goto 4, 3) := by decide +kernel
theorem dX9_load_47 : decode cX9_load 47 = .ok (.iconst 2, 1) := by decide +kernel
theorem dX9_load_48 : decode cX9_load 48 = .ok (.putfield 59, 3) := by decide +kernel
theorem dX9_load_51 : decode cX9_load 51 = .ok (.aload_n 0, 1) := by decide +kernel
theorem dX9_load_52 : decode cX9_load 52 = .ok (.getfield 59, 3) := by decide +kernel
theorem dX9_load_55 : decode cX9_load 55 = .ok (.ifCond .le 5, 3) := by decide +kernel
theorem dX9_load_58 : decode cX9_load 58 = .ok (.iconst 0, 1) := by decide +kernel
theorem dX9_load_59 : decode cX9_load 59 = .ok (.ireturn, 1) := by decide +kernel
theorem dX9_load_60 : decode cX9_load 60 = .ok (.iconst 0, 1) := by decide +kernel
theorem dX9_load_61 : decode cX9_load 61 = .ok (.istore_n 2, 1) := by decide +kernel
theorem dX9_load_62 : decode cX9_load 62 = .ok (.iconst 0, 1) := by decide +kernel
theorem dX9_load_63 : decode cX9_load 63 = .ok (.istore_n 3, 1) := by decide +kernel
theorem dX9_load_64 : decode cX9_load 64 = .ok (.iload_n 3, 1) := by decide +kernel
theorem dX9_load_65 : decode cX9_load 65 = .ok (.aload_n 0, 1) := by decide +kernel
theorem dX9_load_66 : decode cX9_load 66 = .ok (.getfield 147, 3) := by decide +kernel
theorem dX9_load_69 : decode cX9_load 69 = .ok (.if_icmp .ge 21, 3) := by decide +kernel
theorem dX9_load_72 : decode cX9_load 72 = .ok (.iload_n 2, 1) := by decide +kernel
theorem dX9_load_73 : decode cX9_load 73 = .ok (.aload_n 0, 1) := by decide +kernel
theorem dX9_load_74 : decode cX9_load 74 = .ok (.aload_n 0, 1) := by decide +kernel
theorem dX9_load_75 : decode cX9_load 75 = .ok (.iload_n 3, 1) := by decide +kernel
theorem dX9_load_76 : decode cX9_load 76 = .ok (.invokevirtual 160, 3) := by decide +kernel
theorem dX9_load_79 : decode cX9_load 79 = .ok (.invokevirtual 132, 3) := by decide +kernel
theorem dX9_load_82 : decode cX9_load 82 = .ok (.iadd, 1) := by decide +kernel
theorem dX9_load_83 : decode cX9_load 83 = .ok (.istore_n 2, 1) := by decide +kernel
theorem dX9_load_84 : decode cX9_load 84 = .ok (.iinc 3 4, 3) := by decide +kernel
theorem dX9_load_87 : decode cX9_load 87 = .ok (.goto (-23), 3) := by decide +kernel
theorem dX9_load_90 : decode cX9_load 90 = .ok (.aload_n 0, 1) := by decide +kernel
theorem dX9_load_91 : decode cX9_load 91 = .ok (.iconst 0, 1) := by decide +kernel
theorem dX9_load_92 : decode cX9_load 92 = .ok (.putfield 147, 3) := by decide +kernel
theorem dX9_load_95 : decode cX9_load 95 = .ok (.iload_n 2, 1) := by decide +kernel
theorem dX9_load_96 : decode cX9_load 96 = .ok (.ireturn, 1) := by decide +kernel
set_option maxRecDepth 20000 in
theorem ggX9_counted_X9_all : GoodIn wsX9_counted wsX9_all := goodIn_r _ [9, 2, 1, 10, 11, 12, 8, 13, 108, 109, 110, 111, 112, 113, 114, 115, 116, 117, 118, 119, 120, 121, 122, 123, 124, 125, 126, 127, 128, 129, 130, 131, 132] (by decide +kernel) (by decide +kernel)
set_option maxRecDepth 20000 in
theorem gX9_counted_X9_all : GoodIn wsX9_counted (wsV RX9 70 RX9 yX9_all wsX9_all) := goodIn_app (goodIn_of _ (by decide +kernel)) ggX9_counted_X9_all
set_option maxRecDepth 20000 in
theorem ggX9_counted_X9_size : GoodIn wsX9_counted wsX9_size := goodIn_r _ [16, 17, 18, 8, 19] (by decide +kernel) (by decide +kernel)
set_option maxRecDepth 20000 in
theorem gX9_counted_X9_size : GoodIn wsX9_counted (va_wsS RX9 140 yX9_size wsX9_size) := goodIn_app (goodIn_of _ (by decide +kernel)) ggX9_counted_X9_size
set_option maxRecDepth 20000 in
theorem ggX9_counted_X9_complete : GoodIn wsX9_counted wsX9_complete := goodIn_r _ [23, 24, 25, 26, 8, 27, 1, 2, 28, 29, 30, 31, 32, 33, 34, 35, 36, 37, 38, 39, 10, 11, 12, 13, 17, 18, 19, 108, 109, 110, 111, 112, 113, 114, 115, 116, 117, 118, 119, 120, 121, 122, 123, 124, 125, 126, 127, 128, 129, 130, 131, 132] (by decide +kernel) (by decide +kernel)
set_option maxRecDepth 20000 in
theorem gX9_counted_X9_complete : GoodIn wsX9_counted (wsV RX9 167 RX9 yX9_complete wsX9_complete) := goodIn_app (goodIn_of _ (by decide +kernel)) ggX9_counted_X9_complete
set_option maxRecDepth 20000 in
theorem ggX9_counted_X9_howMany : GoodIn wsX9_counted wsX9_howMany := goodIn_r _ [43, 5, 6, 7, 8, 9, 2, 1, 10, 11, 12, 13, 44, 45, 46, 47, 17, 18, 19, 48, 49, 50, 51, 52, 53, 54, 55, 56, 57, 58, 59, 60, 61, 62, 63, 64, 65, 66, 67, 68, 69, 70, 28, 29, 30, 31, 32, 33, 34, 35, 36, 37, 38, 39, 71, 72, 73, 74, 108, 109, 110, 111, 112, 113, 114, 115, 116, 117, 118, 119, 120, 121, 122, 123, 124, 125, 126, 127, 128, 129, 130, 131, 132] (by decide +kernel) (by decide +kernel)
set_option maxRecDepth 20000 in
theorem gX9_counted_X9_howMany : GoodIn wsX9_counted (wsV RX9 170 RX9 yX9_howMany wsX9_howMany) := goodIn_app (goodIn_of _ (by decide +kernel)) ggX9_counted_X9_howMany
set_option maxRecDepth 20000 in
theorem ggX9_counted_X9_runOf : GoodIn wsX9_counted wsX9_runOf := goodIn_r _ [78, 79, 80, 81, 8, 82, 5, 6, 7, 9, 2, 1, 10, 11, 12, 13, 44, 45, 46, 47, 17, 18, 19, 48, 49, 50, 51, 52, 53, 54, 55, 56, 57, 58, 59, 60, 61, 62, 63, 64, 65, 66, 67, 68, 69, 70, 28, 29, 30, 31, 32, 33, 34, 35, 36, 37, 38, 39, 71, 72, 73, 74, 108, 109, 110, 111, 112, 113, 114, 115, 116, 117, 118, 119, 120, 121, 122, 123, 124, 125, 126, 127, 128, 129, 130, 131, 132] (by decide +kernel) (by decide +kernel)
set_option maxRecDepth 20000 in
theorem gX9_counted_X9_runOf : GoodIn wsX9_counted (wsV RX9 173 RX9 yX9_runOf wsX9_runOf) := goodIn_app (goodIn_of _ (by decide +kernel)) ggX9_counted_X9_runOf
set_option maxRecDepth 20000 in
theorem ggX9_counted_X9_layStrings : GoodIn wsX9_counted wsX9_layStrings := goodIn_r _ [86, 87, 88, 89, 90, 91, 3, 24, 25, 26, 8, 27, 1, 2, 92, 93, 94, 95, 28, 29, 30, 31, 32, 33, 34, 35, 36, 37, 38, 39, 10, 11, 12, 13, 17, 18, 19, 68, 69, 70, 96, 97, 98, 99, 100, 101, 102, 103, 52, 53, 54, 55, 56, 57, 58, 59, 60, 61, 62, 63, 64, 65, 66, 67, 104, 105, 106, 107, 108, 109, 110, 111, 112, 113, 114, 115, 116, 117, 118, 119, 120, 121, 122, 123, 124, 125, 126, 127, 128, 129, 130, 131, 132] (by decide +kernel) (by decide +kernel)
set_option maxRecDepth 20000 in
theorem gX9_counted_X9_layStrings : GoodIn wsX9_counted (wsV RX9 176 RX9 yX9_layStrings wsX9_layStrings) := goodIn_app (goodIn_of _ (by decide +kernel)) ggX9_counted_X9_layStrings
theorem dX9_counted_0 : decode cX9_counted 0 = .ok (.iload_n 1, 1) := by decide +kernel
theorem dX9_counted_1 : decode cX9_counted 1 = .ok (.tableswitch 113 0 9 #[55, 60, 65, 70, 78, 87, 92, 92, 92, 104], 55) := by decide +kernel
theorem dX9_counted_56 : decode cX9_counted 56 = .ok (.aload_n 0, 1) := by decide +kernel
theorem dX9_counted_57 : decode cX9_counted 57 = .ok (.getfield 7, 3) := by decide +kernel
theorem dX9_counted_60 : decode cX9_counted 60 = .ok (.ireturn, 1) := by decide +kernel
theorem dX9_counted_61 : decode cX9_counted 61 = .ok (.aload_n 0, 1) := by decide +kernel
theorem dX9_counted_62 : decode cX9_counted 62 = .ok (.getfield 13, 3) := by decide +kernel
theorem dX9_counted_65 : decode cX9_counted 65 = .ok (.ireturn, 1) := by decide +kernel
theorem dX9_counted_66 : decode cX9_counted 66 = .ok (.aload_n 0, 1) := by decide +kernel
theorem dX9_counted_67 : decode cX9_counted 67 = .ok (.invokevirtual 70, 3) := by decide +kernel
theorem dX9_counted_70 : decode cX9_counted 70 = .ok (.ireturn, 1) := by decide +kernel
theorem dX9_counted_71 : decode cX9_counted 71 = .ok (.aload_n 0, 1) := by decide +kernel
theorem dX9_counted_72 : decode cX9_counted 72 = .ok (.getfield 119, 3) := by decide +kernel
theorem dX9_counted_75 : decode cX9_counted 75 = .ok (.invokestatic 140, 3) := by decide +kernel
theorem dX9_counted_78 : decode cX9_counted 78 = .ok (.ireturn, 1) := by decide +kernel
theorem dX9_counted_79 : decode cX9_counted 79 = .ok (.aload_n 0, 1) := by decide +kernel
theorem dX9_counted_80 : decode cX9_counted 80 = .ok (.aload_n 0, 1) := by decide +kernel
theorem dX9_counted_81 : decode cX9_counted 81 = .ok (.getfield 119, 3) := by decide +kernel
theorem dX9_counted_84 : decode cX9_counted 84 = .ok (.invokevirtual 167, 3) := by decide +kernel
theorem dX9_counted_87 : decode cX9_counted 87 = .ok (.ireturn, 1) := by decide +kernel
theorem dX9_counted_88 : decode cX9_counted 88 = .ok (.aload_n 0, 1) := by decide +kernel
theorem dX9_counted_89 : decode cX9_counted 89 = .ok (.getfield 123, 3) := by decide +kernel
theorem dX9_counted_92 : decode cX9_counted 92 = .ok (.ireturn, 1) := by decide +kernel
theorem dX9_counted_93 : decode cX9_counted 93 = .ok (.aload_n 0, 1) := by decide +kernel
theorem dX9_counted_94 : decode cX9_counted 94 = .ok (.iload_n 1, 1) := by decide +kernel
theorem dX9_counted_95 : decode cX9_counted 95 = .ok (.iconst 5, 1) := by decide +kernel
theorem dX9_counted_96 : decode cX9_counted 96 = .ok (.isub, 1) := by decide +kernel
theorem dX9_counted_97 : decode cX9_counted 97 = .ok (.aload_n 0, 1) := by decide +kernel
theorem dX9_counted_98 : decode cX9_counted 98 = .ok (.getfield 119, 3) := by decide +kernel
theorem dX9_counted_101 : decode cX9_counted 101 = .ok (.invokevirtual 170, 3) := by decide +kernel
theorem dX9_counted_104 : decode cX9_counted 104 = .ok (.ireturn, 1) := by decide +kernel
theorem dX9_counted_105 : decode cX9_counted 105 = .ok (.aload_n 0, 1) := by decide +kernel
theorem dX9_counted_106 : decode cX9_counted 106 = .ok (.aload_n 0, 1) := by decide +kernel
theorem dX9_counted_107 : decode cX9_counted 107 = .ok (.getfield 119, 3) := by decide +kernel
theorem dX9_counted_110 : decode cX9_counted 110 = .ok (.invokevirtual 173, 3) := by decide +kernel
theorem dX9_counted_113 : decode cX9_counted 113 = .ok (.ireturn, 1) := by decide +kernel
theorem dX9_counted_114 : decode cX9_counted 114 = .ok (.aload_n 0, 1) := by decide +kernel
theorem dX9_counted_115 : decode cX9_counted 115 = .ok (.invokevirtual 176, 3) := by decide +kernel
theorem dX9_counted_118 : decode cX9_counted 118 = .ok (.ireturn, 1) := by decide +kernel
set_option maxRecDepth 20000 in
theorem ggX9_count_X9_within : GoodIn wsX9_count wsX9_within := goodIn_r _ [5] (by decide +kernel) (by decide +kernel)
set_option maxRecDepth 20000 in
theorem gX9_count_X9_within : GoodIn wsX9_count (va_wsS RX9 73 yX9_within wsX9_within) := goodIn_app (goodIn_of _ (by decide +kernel)) ggX9_count_X9_within
set_option maxRecDepth 20000 in
theorem ggX9_count_X9_counted : GoodIn wsX9_count wsX9_counted := goodIn_r _ [9, 10, 11, 12, 13, 14, 15, 16, 4, 17, 18, 19, 20, 21, 22, 23, 24, 25, 26, 27, 28, 29, 30, 31, 32, 33, 34, 35, 36, 37, 38, 39, 40, 41, 42, 43, 44, 45, 46, 47, 48, 49, 50, 51, 52, 53, 54, 55, 56, 57, 58, 59, 60, 61, 62, 63, 64, 65, 66, 67, 68, 69, 70, 71, 72, 73, 74, 75, 2, 3, 5, 76, 77, 78, 79, 80, 81, 82, 83, 84, 85, 86, 87, 88, 89, 90, 91, 92, 93, 94, 95, 96, 97, 98, 99, 100, 101, 102, 103, 104, 105, 106, 107, 108, 109, 110, 111, 112, 113, 114, 115, 116, 117, 118, 119, 120, 121, 122, 123, 124, 125, 126, 127, 128, 129, 130, 131, 132, 133, 134, 135, 136, 137] (by decide +kernel) (by decide +kernel)
set_option maxRecDepth 20000 in
theorem gX9_count_X9_counted : GoodIn wsX9_count (wsV RX9 179 RX9 yX9_counted wsX9_counted) := goodIn_app (goodIn_of _ (by decide +kernel)) ggX9_count_X9_counted
theorem dX9_count_0 : decode cX9_count 0 = .ok (.aload_n 0, 1) := by decide +kernel
theorem dX9_count_1 : decode cX9_count 1 = .ok (.iload_n 1, 1) := by decide +kernel
theorem dX9_count_2 : decode cX9_count 2 = .ok (.iconst 0, 1) := by decide +kernel
theorem dX9_count_3 : decode cX9_count 3 = .ok (.bipush 10, 2) := by decide +kernel
theorem dX9_count_5 : decode cX9_count 5 = .ok (.invokestatic 73, 3) := by decide +kernel
theorem dX9_count_8 : decode cX9_count 8 = .ok (.ifCond .eq 7, 3) := by decide +kernel
theorem dX9_count_11 : decode cX9_count 11 = .ok (.iconst 0, 1) := by decide +kernel
theorem dX9_count_12 : decode cX9_count 12 = .ok (.goto 4, 3) := by decide +kernel
theorem dX9_count_15 : decode cX9_count 15 = .ok (.iconst 1, 1) := by decide +kernel
theorem dX9_count_16 : decode cX9_count 16 = .ok (.putfield 59, 3) := by decide +kernel
theorem dX9_count_19 : decode cX9_count 19 = .ok (.aload_n 0, 1) := by decide +kernel
theorem dX9_count_20 : decode cX9_count 20 = .ok (.getfield 59, 3) := by decide +kernel
theorem dX9_count_23 : decode cX9_count 23 = .ok (.ifCond .le 7, 3) := by decide +kernel
theorem dX9_count_26 : decode cX9_count 26 = .ok (.iconst 0, 1) := by decide +kernel
theorem dX9_count_27 : decode cX9_count 27 = .ok (.goto 8, 3) := by decide +kernel
theorem dX9_count_30 : decode cX9_count 30 = .ok (.aload_n 0, 1) := by decide +kernel
theorem dX9_count_31 : decode cX9_count 31 = .ok (.iload_n 1, 1) := by decide +kernel
theorem dX9_count_32 : decode cX9_count 32 = .ok (.invokevirtual 179, 3) := by decide +kernel
theorem dX9_count_35 : decode cX9_count 35 = .ok (.ireturn, 1) := by decide +kernel
set_option maxRecDepth 20000 in
theorem ggX9_scoreOf_X9_boxes : GoodIn wsX9_scoreOf wsX9_boxes := goodIn_r _ [6, 7, 8, 9, 10, 11, 12, 13, 14, 15, 16, 17, 18, 19, 20, 21, 22, 23, 24, 25, 26, 27, 28, 29, 30, 31, 32, 33] (by decide +kernel) (by decide +kernel)
set_option maxRecDepth 20000 in
theorem gX9_scoreOf_X9_boxes : GoodIn wsX9_scoreOf (wsV RX9 77 RX9 yX9_boxes wsX9_boxes) := goodIn_app (goodIn_of _ (by decide +kernel)) ggX9_scoreOf_X9_boxes
theorem dX9_scoreOf_0 : decode cX9_scoreOf 0 = .ok (.iconst 0, 1) := by decide +kernel
theorem dX9_scoreOf_1 : decode cX9_scoreOf 1 = .ok (.istore_n 2, 1) := by decide +kernel
theorem dX9_scoreOf_2 : decode cX9_scoreOf 2 = .ok (.iconst 0, 1) := by decide +kernel
theorem dX9_scoreOf_3 : decode cX9_scoreOf 3 = .ok (.istore_n 3, 1) := by decide +kernel
theorem dX9_scoreOf_4 : decode cX9_scoreOf 4 = .ok (.iload_n 3, 1) := by decide +kernel
theorem dX9_scoreOf_5 : decode cX9_scoreOf 5 = .ok (.aload_n 0, 1) := by decide +kernel
theorem dX9_scoreOf_6 : decode cX9_scoreOf 6 = .ok (.invokevirtual 77, 3) := by decide +kernel
theorem dX9_scoreOf_9 : decode cX9_scoreOf 9 = .ok (.if_icmp .ge 27, 3) := by decide +kernel
theorem dX9_scoreOf_12 : decode cX9_scoreOf 12 = .ok (.iload_n 2, 1) := by decide +kernel
theorem dX9_scoreOf_13 : decode cX9_scoreOf 13 = .ok (.aload_n 0, 1) := by decide +kernel
theorem dX9_scoreOf_14 : decode cX9_scoreOf 14 = .ok (.getfield 23, 3) := by decide +kernel
theorem dX9_scoreOf_17 : decode cX9_scoreOf 17 = .ok (.iload_n 3, 1) := by decide +kernel
theorem dX9_scoreOf_18 : decode cX9_scoreOf 18 = .ok (.iaload, 1) := by decide +kernel
theorem dX9_scoreOf_19 : decode cX9_scoreOf 19 = .ok (.iload_n 1, 1) := by decide +kernel
theorem dX9_scoreOf_20 : decode cX9_scoreOf 20 = .ok (.if_icmp .ne 7, 3) := by decide +kernel
theorem dX9_scoreOf_23 : decode cX9_scoreOf 23 = .ok (.iconst 1, 1) := by decide +kernel
theorem dX9_scoreOf_24 : decode cX9_scoreOf 24 = .ok (.goto 4, 3) := by decide +kernel
theorem dX9_scoreOf_27 : decode cX9_scoreOf 27 = .ok (.iconst 0, 1) := by decide +kernel
theorem dX9_scoreOf_28 : decode cX9_scoreOf 28 = .ok (.iadd, 1) := by decide +kernel
theorem dX9_scoreOf_29 : decode cX9_scoreOf 29 = .ok (.istore_n 2, 1) := by decide +kernel
theorem dX9_scoreOf_30 : decode cX9_scoreOf 30 = .ok (.iinc 3 1, 3) := by decide +kernel
theorem dX9_scoreOf_33 : decode cX9_scoreOf 33 = .ok (.goto (-29), 3) := by decide +kernel
theorem dX9_scoreOf_36 : decode cX9_scoreOf 36 = .ok (.iload_n 2, 1) := by decide +kernel
theorem dX9_scoreOf_37 : decode cX9_scoreOf 37 = .ok (.ireturn, 1) := by decide +kernel
set_option maxRecDepth 20000 in
theorem ggX9_score_X9_within : GoodIn wsX9_score wsX9_within := goodIn_r _ [5] (by decide +kernel) (by decide +kernel)
set_option maxRecDepth 20000 in
theorem gX9_score_X9_within : GoodIn wsX9_score (va_wsS RX9 73 yX9_within wsX9_within) := goodIn_app (goodIn_of _ (by decide +kernel)) ggX9_score_X9_within
set_option maxRecDepth 20000 in
theorem ggX9_score_X9_scoreOf : GoodIn wsX9_score wsX9_scoreOf := goodIn_r _ [9, 10, 11, 12, 13, 4, 14, 15, 16, 17, 18, 19, 20, 21, 22, 23, 24, 25, 26, 27, 28, 29, 30, 31, 32, 33, 34, 35, 36, 37, 38, 39, 40, 41] (by decide +kernel) (by decide +kernel)
set_option maxRecDepth 20000 in
theorem gX9_score_X9_scoreOf : GoodIn wsX9_score (wsV RX9 182 RX9 yX9_scoreOf wsX9_scoreOf) := goodIn_app (goodIn_of _ (by decide +kernel)) ggX9_score_X9_scoreOf
theorem dX9_score_0 : decode cX9_score 0 = .ok (.aload_n 0, 1) := by decide +kernel
theorem dX9_score_1 : decode cX9_score 1 = .ok (.iload_n 1, 1) := by decide +kernel
theorem dX9_score_2 : decode cX9_score 2 = .ok (.iconst 0, 1) := by decide +kernel
theorem dX9_score_3 : decode cX9_score 3 = .ok (.iconst 1, 1) := by decide +kernel
theorem dX9_score_4 : decode cX9_score 4 = .ok (.invokestatic 73, 3) := by decide +kernel
theorem dX9_score_7 : decode cX9_score 7 = .ok (.ifCond .eq 7, 3) := by decide +kernel
theorem dX9_score_10 : decode cX9_score 10 = .ok (.iconst 0, 1) := by decide +kernel
theorem dX9_score_11 : decode cX9_score 11 = .ok (.goto 4, 3) := by decide +kernel
theorem dX9_score_14 : decode cX9_score 14 = .ok (.iconst 1, 1) := by decide +kernel
theorem dX9_score_15 : decode cX9_score 15 = .ok (.putfield 59, 3) := by decide +kernel
theorem dX9_score_18 : decode cX9_score 18 = .ok (.aload_n 0, 1) := by decide +kernel
theorem dX9_score_19 : decode cX9_score 19 = .ok (.getfield 59, 3) := by decide +kernel
theorem dX9_score_22 : decode cX9_score 22 = .ok (.ifCond .le 7, 3) := by decide +kernel
theorem dX9_score_25 : decode cX9_score 25 = .ok (.iconst 0, 1) := by decide +kernel
theorem dX9_score_26 : decode cX9_score 26 = .ok (.goto 8, 3) := by decide +kernel
theorem dX9_score_29 : decode cX9_score 29 = .ok (.aload_n 0, 1) := by decide +kernel
theorem dX9_score_30 : decode cX9_score 30 = .ok (.iload_n 1, 1) := by decide +kernel
theorem dX9_score_31 : decode cX9_score 31 = .ok (.invokevirtual 182, 3) := by decide +kernel
theorem dX9_score_34 : decode cX9_score 34 = .ok (.ireturn, 1) := by decide +kernel
set_option maxRecDepth 20000 in
theorem ggX9_line_X9_exists : GoodIn wsX9_line wsX9_exists := goodIn_r _ [6, 7, 8, 9, 10, 5, 11, 20, 21, 22, 23, 24, 25, 26, 27, 28, 29, 30, 31, 32, 33, 34, 35, 36, 37, 38, 39, 40, 41, 42, 43, 44] (by decide +kernel) (by decide +kernel)
set_option maxRecDepth 20000 in
theorem gX9_line_X9_exists : GoodIn wsX9_line (wsV RX9 150 RX9 yX9_exists wsX9_exists) := goodIn_app (goodIn_of _ (by decide +kernel)) ggX9_line_X9_exists
set_option maxRecDepth 20000 in
theorem ggX9_line_X9_numberOf : GoodIn wsX9_line wsX9_numberOf := goodIn_r _ [15, 7, 16, 17, 18, 5, 19, 8, 20, 21, 22, 23, 24, 25, 26, 27, 28, 29, 30, 31, 32, 33, 34, 35, 36, 37, 38, 39, 40, 41, 42, 43, 44] (by decide +kernel) (by decide +kernel)
set_option maxRecDepth 20000 in
theorem gX9_line_X9_numberOf : GoodIn wsX9_line (wsV RX9 91 RX9 yX9_numberOf wsX9_numberOf) := goodIn_app (goodIn_of _ (by decide +kernel)) ggX9_line_X9_numberOf
theorem dX9_line_0 : decode cX9_line 0 = .ok (.aload_n 0, 1) := by decide +kernel
theorem dX9_line_1 : decode cX9_line 1 = .ok (.aload_n 0, 1) := by decide +kernel
theorem dX9_line_2 : decode cX9_line 2 = .ok (.iload_n 1, 1) := by decide +kernel
theorem dX9_line_3 : decode cX9_line 3 = .ok (.iload_n 2, 1) := by decide +kernel
theorem dX9_line_4 : decode cX9_line 4 = .ok (.iload_n 3, 1) := by decide +kernel
theorem dX9_line_5 : decode cX9_line 5 = .ok (.invokevirtual 150, 3) := by decide +kernel
theorem dX9_line_8 : decode cX9_line 8 = .ok (.ifCond .eq 7, 3) := by decide +kernel
theorem dX9_line_11 : decode cX9_line 11 = .ok (.iconst 0, 1) := by decide +kernel
theorem dX9_line_12 : decode cX9_line 12 = .ok (.goto 4, 3) := by decide +kernel
theorem dX9_line_15 : decode cX9_line 15 = .ok (.iconst 1, 1) := by decide +kernel
theorem dX9_line_16 : decode cX9_line 16 = .ok (.putfield 59, 3) := by decide +kernel
theorem dX9_line_19 : decode cX9_line 19 = .ok (.aload_n 0, 1) := by decide +kernel
theorem dX9_line_20 : decode cX9_line 20 = .ok (.getfield 59, 3) := by decide +kernel
theorem dX9_line_23 : decode cX9_line 23 = .ok (.ifCond .le 7, 3) := by decide +kernel
theorem dX9_line_26 : decode cX9_line 26 = .ok (.iconst 0, 1) := by decide +kernel
theorem dX9_line_27 : decode cX9_line 27 = .ok (.goto 10, 3) := by decide +kernel
theorem dX9_line_30 : decode cX9_line 30 = .ok (.aload_n 0, 1) := by decide +kernel
theorem dX9_line_31 : decode cX9_line 31 = .ok (.iload_n 1, 1) := by decide +kernel
theorem dX9_line_32 : decode cX9_line 32 = .ok (.iload_n 2, 1) := by decide +kernel
theorem dX9_line_33 : decode cX9_line 33 = .ok (.iload_n 3, 1) := by decide +kernel
theorem dX9_line_34 : decode cX9_line 34 = .ok (.invokevirtual 91, 3) := by decide +kernel
theorem dX9_line_37 : decode cX9_line 37 = .ok (.ireturn, 1) := by decide +kernel
set_option maxRecDepth 20000 in
theorem ggX9_kind_X9_isLine : GoodIn wsX9_kind wsX9_isLine := goodIn_r _ [7, 8, 9, 10, 6, 11, 12, 13, 14, 15, 16, 17, 18, 19, 20, 64, 65, 66, 67, 68, 69, 70, 71, 72, 73, 74, 75, 76, 77, 78, 79, 80, 81, 82, 83, 84, 85, 86, 87, 88] (by decide +kernel) (by decide +kernel)
set_option maxRecDepth 20000 in
theorem gX9_kind_X9_isLine : GoodIn wsX9_kind (wsV RX9 129 RX9 yX9_isLine wsX9_isLine) := goodIn_app (goodIn_of _ (by decide +kernel)) ggX9_kind_X9_isLine
set_option maxRecDepth 20000 in
theorem ggX9_kind_X9_kindIn : GoodIn wsX9_kind wsX9_kindIn := goodIn_r _ [24, 25, 26, 6, 27, 28, 29, 30, 31, 32, 33, 34, 35, 13, 12, 36, 37, 38, 39, 40, 41, 42, 43, 14, 15, 16, 17, 44, 45, 46, 47, 18, 19, 20, 48, 49, 50, 51, 52, 53, 54, 55, 56, 57, 58, 59, 60, 61, 62, 63, 64, 65, 66, 67, 68, 69, 70, 71, 72, 73, 74, 75, 76, 77, 78, 79, 80, 81, 82, 83, 84, 85, 86, 87, 88] (by decide +kernel) (by decide +kernel)
set_option maxRecDepth 20000 in
theorem gX9_kind_X9_kindIn : GoodIn wsX9_kind (wsV RX9 113 RX9 yX9_kindIn wsX9_kindIn) := goodIn_app (goodIn_of _ (by decide +kernel)) ggX9_kind_X9_kindIn
theorem dX9_kind_0 : decode cX9_kind 0 = .ok (.aload_n 0, 1) := by decide +kernel
theorem dX9_kind_1 : decode cX9_kind 1 = .ok (.aload_n 0, 1) := by decide +kernel
theorem dX9_kind_2 : decode cX9_kind 2 = .ok (.iload_n 1, 1) := by decide +kernel
theorem dX9_kind_3 : decode cX9_kind 3 = .ok (.invokevirtual 129, 3) := by decide +kernel
theorem dX9_kind_6 : decode cX9_kind 6 = .ok (.ifCond .eq 7, 3) := by decide +kernel
theorem dX9_kind_9 : decode cX9_kind 9 = .ok (.iconst 0, 1) := by decide +kernel
theorem dX9_kind_10 : decode cX9_kind 10 = .ok (.goto 4, 3) := by decide +kernel
theorem dX9_kind_13 : decode cX9_kind 13 = .ok (.iconst 1, 1) := by decide +kernel
theorem dX9_kind_14 : decode cX9_kind 14 = .ok (.putfield 59, 3) := by decide +kernel
theorem dX9_kind_17 : decode cX9_kind 17 = .ok (.aload_n 0, 1) := by decide +kernel
theorem dX9_kind_18 : decode cX9_kind 18 = .ok (.getfield 59, 3) := by decide +kernel
theorem dX9_kind_21 : decode cX9_kind 21 = .ok (.ifCond .le 7, 3) := by decide +kernel
theorem dX9_kind_24 : decode cX9_kind 24 = .ok (.iconst 0, 1) := by decide +kernel
theorem dX9_kind_25 : decode cX9_kind 25 = .ok (.goto 12, 3) := by decide +kernel
theorem dX9_kind_28 : decode cX9_kind 28 = .ok (.aload_n 0, 1) := by decide +kernel
theorem dX9_kind_29 : decode cX9_kind 29 = .ok (.iload_n 1, 1) := by decide +kernel
theorem dX9_kind_30 : decode cX9_kind 30 = .ok (.aload_n 0, 1) := by decide +kernel
theorem dX9_kind_31 : decode cX9_kind 31 = .ok (.getfield 119, 3) := by decide +kernel
theorem dX9_kind_34 : decode cX9_kind 34 = .ok (.invokevirtual 113, 3) := by decide +kernel
theorem dX9_kind_37 : decode cX9_kind 37 = .ok (.ireturn, 1) := by decide +kernel
set_option maxRecDepth 20000 in
theorem ggX9_price_X9_isLine : GoodIn wsX9_price wsX9_isLine := goodIn_r _ [7, 8, 9, 10, 6, 11, 12, 13, 14, 15, 16, 17, 18, 19, 20, 72, 73, 74, 75, 76, 77, 78, 79, 80, 81, 82, 83, 84, 85, 86, 87, 88, 89, 90, 91, 92, 93, 94, 95, 96] (by decide +kernel) (by decide +kernel)
set_option maxRecDepth 20000 in
theorem gX9_price_X9_isLine : GoodIn wsX9_price (wsV RX9 129 RX9 yX9_isLine wsX9_isLine) := goodIn_app (goodIn_of _ (by decide +kernel)) ggX9_price_X9_isLine
set_option maxRecDepth 20000 in
theorem ggX9_price_X9_has : GoodIn wsX9_price wsX9_has := goodIn_r _ [23] (by decide +kernel) (by decide +kernel)
set_option maxRecDepth 20000 in
theorem gX9_price_X9_has : GoodIn wsX9_price (va_wsS RX9 62 yX9_has wsX9_has) := goodIn_app (goodIn_of _ (by decide +kernel)) ggX9_price_X9_has
set_option maxRecDepth 20000 in
theorem ggX9_price_X9_runOf : GoodIn wsX9_price wsX9_runOf := goodIn_r _ [27, 28, 29, 30, 6, 31, 8, 9, 10, 11, 12, 13, 14, 15, 16, 17, 32, 33, 34, 35, 21, 22, 23, 36, 37, 38, 39, 40, 41, 42, 43, 44, 45, 46, 47, 48, 49, 50, 51, 52, 53, 54, 55, 18, 19, 20, 56, 57, 58, 59, 60, 61, 62, 63, 64, 65, 66, 67, 68, 69, 70, 71, 72, 73, 74, 75, 76, 77, 78, 79, 80, 81, 82, 83, 84, 85, 86, 87, 88, 89, 90, 91, 92, 93, 94, 95, 96] (by decide +kernel) (by decide +kernel)
set_option maxRecDepth 20000 in
theorem gX9_price_X9_runOf : GoodIn wsX9_price (wsV RX9 173 RX9 yX9_runOf wsX9_runOf) := goodIn_app (goodIn_of _ (by decide +kernel)) ggX9_price_X9_runOf
theorem dX9_price_0 : decode cX9_price 0 = .ok (.aload_n 0, 1) := by decide +kernel
theorem dX9_price_1 : decode cX9_price 1 = .ok (.aload_n 0, 1) := by decide +kernel
theorem dX9_price_2 : decode cX9_price 2 = .ok (.iload_n 1, 1) := by decide +kernel
theorem dX9_price_3 : decode cX9_price 3 = .ok (.invokevirtual 129, 3) := by decide +kernel
theorem dX9_price_6 : decode cX9_price 6 = .ok (.ifCond .ne 7, 3) := by decide +kernel
theorem dX9_price_9 : decode cX9_price 9 = .ok (.iconst 1, 1) := by decide +kernel
theorem dX9_price_10 : decode cX9_price 10 = .ok (.goto 19, 3) := by decide +kernel
theorem dX9_price_13 : decode cX9_price 13 = .ok (.aload_n 0, 1) := by decide +kernel
theorem dX9_price_14 : decode cX9_price 14 = .ok (.getfield 119, 3) := by decide +kernel
theorem dX9_price_17 : decode cX9_price 17 = .ok (.iload_n 1, 1) := by decide +kernel
theorem dX9_price_18 : decode cX9_price 18 = .ok (.invokestatic 62, 3) := by decide +kernel
theorem dX9_price_21 : decode cX9_price 21 = .ok (.ifCond .eq 7, 3) := by decide +kernel
theorem dX9_price_24 : decode cX9_price 24 = .ok (.iconst 2, 1) := by decide +kernel
theorem dX9_price_25 : decode cX9_price 25 = .ok (.goto 4, 3) := by decide +kernel
theorem dX9_price_28 : decode cX9_price 28 = .ok (.iconst 0, 1) := by decide +kernel
theorem dX9_price_29 : decode cX9_price 29 = .ok (.putfield 59, 3) := by decide +kernel
theorem dX9_price_32 : decode cX9_price 32 = .ok (.aload_n 0, 1) := by decide +kernel
theorem dX9_price_33 : decode cX9_price 33 = .ok (.getfield 59, 3) := by decide +kernel
theorem dX9_price_36 : decode cX9_price 36 = .ok (.ifCond .le 7, 3) := by decide +kernel
theorem dX9_price_39 : decode cX9_price 39 = .ok (.iconst 0, 1) := by decide +kernel
theorem dX9_price_40 : decode cX9_price 40 = .ok (.goto 15, 3) := by decide +kernel
theorem dX9_price_43 : decode cX9_price 43 = .ok (.aload_n 0, 1) := by decide +kernel
theorem dX9_price_44 : decode cX9_price 44 = .ok (.aload_n 0, 1) := by decide +kernel
theorem dX9_price_45 : decode cX9_price 45 = .ok (.getfield 119, 3) := by decide +kernel
theorem dX9_price_48 : decode cX9_price 48 = .ok (.lconst 1, 1) := by decide +kernel
theorem dX9_price_49 : decode cX9_price 49 = .ok (.iload_n 1, 1) := by decide +kernel
theorem dX9_price_50 : decode cX9_price 50 = .ok (.lshl, 1) := by decide +kernel
theorem dX9_price_51 : decode cX9_price 51 = .ok (.lor, 1) := by decide +kernel
theorem dX9_price_52 : decode cX9_price 52 = .ok (.invokevirtual 173, 3) := by decide +kernel
theorem dX9_price_55 : decode cX9_price 55 = .ok (.ireturn, 1) := by decide +kernel
set_option maxRecDepth 20000 in
theorem ggX9_drawn_X9_within : GoodIn wsX9_drawn wsX9_within := goodIn_r _ [7] (by decide +kernel) (by decide +kernel)
set_option maxRecDepth 20000 in
theorem gX9_drawn_X9_within : GoodIn wsX9_drawn (va_wsS RX9 73 yX9_within wsX9_within) := goodIn_app (goodIn_of _ (by decide +kernel)) ggX9_drawn_X9_within
theorem dX9_drawn_0 : decode cX9_drawn 0 = .ok (.aload_n 0, 1) := by decide +kernel
theorem dX9_drawn_1 : decode cX9_drawn 1 = .ok (.iload_n 1, 1) := by decide +kernel
theorem dX9_drawn_2 : decode cX9_drawn 2 = .ok (.iconst 0, 1) := by decide +kernel
theorem dX9_drawn_3 : decode cX9_drawn 3 = .ok (.aload_n 0, 1) := by decide +kernel
theorem dX9_drawn_4 : decode cX9_drawn 4 = .ok (.getfield 126, 3) := by decide +kernel
theorem dX9_drawn_7 : decode cX9_drawn 7 = .ok (.iconst 1, 1) := by decide +kernel
theorem dX9_drawn_8 : decode cX9_drawn 8 = .ok (.isub, 1) := by decide +kernel
theorem dX9_drawn_9 : decode cX9_drawn 9 = .ok (.invokestatic 73, 3) := by decide +kernel
theorem dX9_drawn_12 : decode cX9_drawn 12 = .ok (.ifCond .eq 7, 3) := by decide +kernel
theorem dX9_drawn_15 : decode cX9_drawn 15 = .ok (.iconst 0, 1) := by decide +kernel
theorem dX9_drawn_16 : decode cX9_drawn 16 = .ok (.goto 4, 3) := by decide +kernel
theorem dX9_drawn_19 : decode cX9_drawn 19 = .ok (.iconst 1, 1) := by decide +kernel
theorem dX9_drawn_20 : decode cX9_drawn 20 = .ok (.putfield 59, 3) := by decide +kernel
theorem dX9_drawn_23 : decode cX9_drawn 23 = .ok (.aload_n 0, 1) := by decide +kernel
theorem dX9_drawn_24 : decode cX9_drawn 24 = .ok (.getfield 59, 3) := by decide +kernel
theorem dX9_drawn_27 : decode cX9_drawn 27 = .ok (.ifCond .le 7, 3) := by decide +kernel
theorem dX9_drawn_30 : decode cX9_drawn 30 = .ok (.iconst 0, 1) := by decide +kernel
theorem dX9_drawn_31 : decode cX9_drawn 31 = .ok (.goto 9, 3) := by decide +kernel
theorem dX9_drawn_34 : decode cX9_drawn 34 = .ok (.aload_n 0, 1) := by decide +kernel
theorem dX9_drawn_35 : decode cX9_drawn 35 = .ok (.getfield 16, 3) := by decide +kernel
theorem dX9_drawn_38 : decode cX9_drawn 38 = .ok (.iload_n 1, 1) := by decide +kernel
theorem dX9_drawn_39 : decode cX9_drawn 39 = .ok (.iaload, 1) := by decide +kernel
theorem dX9_drawn_40 : decode cX9_drawn 40 = .ok (.ireturn, 1) := by decide +kernel
set_option maxRecDepth 20000 in
theorem ggX9_owner_X9_isBox : GoodIn wsX9_owner wsX9_isBox := goodIn_r _ [7, 8, 9, 10, 6, 11, 12, 13, 14, 15, 16, 17, 18, 19, 20, 21, 22, 23, 24, 25, 26, 27, 28, 29, 30, 31, 32, 33, 34, 35, 36, 37, 38, 39, 40, 41] (by decide +kernel) (by decide +kernel)
set_option maxRecDepth 20000 in
theorem gX9_owner_X9_isBox : GoodIn wsX9_owner (wsV RX9 185 RX9 yX9_isBox wsX9_isBox) := goodIn_app (goodIn_of _ (by decide +kernel)) ggX9_owner_X9_isBox
theorem dX9_owner_0 : decode cX9_owner 0 = .ok (.aload_n 0, 1) := by decide +kernel
theorem dX9_owner_1 : decode cX9_owner 1 = .ok (.aload_n 0, 1) := by decide +kernel
theorem dX9_owner_2 : decode cX9_owner 2 = .ok (.iload_n 1, 1) := by decide +kernel
theorem dX9_owner_3 : decode cX9_owner 3 = .ok (.invokevirtual 185, 3) := by decide +kernel
theorem dX9_owner_6 : decode cX9_owner 6 = .ok (.ifCond .eq 7, 3) := by decide +kernel
theorem dX9_owner_9 : decode cX9_owner 9 = .ok (.iconst 0, 1) := by decide +kernel
theorem dX9_owner_10 : decode cX9_owner 10 = .ok (.goto 4, 3) := by decide +kernel
theorem dX9_owner_13 : decode cX9_owner 13 = .ok (.iconst 1, 1) := by decide +kernel
theorem dX9_owner_14 : decode cX9_owner 14 = .ok (.putfield 59, 3) := by decide +kernel
theorem dX9_owner_17 : decode cX9_owner 17 = .ok (.aload_n 0, 1) := by decide +kernel
theorem dX9_owner_18 : decode cX9_owner 18 = .ok (.getfield 59, 3) := by decide +kernel
theorem dX9_owner_21 : decode cX9_owner 21 = .ok (.ifCond .le 7, 3) := by decide +kernel
theorem dX9_owner_24 : decode cX9_owner 24 = .ok (.iconst 0, 1) := by decide +kernel
theorem dX9_owner_25 : decode cX9_owner 25 = .ok (.goto 9, 3) := by decide +kernel
theorem dX9_owner_28 : decode cX9_owner 28 = .ok (.aload_n 0, 1) := by decide +kernel
theorem dX9_owner_29 : decode cX9_owner 29 = .ok (.getfield 23, 3) := by decide +kernel
theorem dX9_owner_32 : decode cX9_owner 32 = .ok (.iload_n 1, 1) := by decide +kernel
theorem dX9_owner_33 : decode cX9_owner 33 = .ok (.iaload, 1) := by decide +kernel
theorem dX9_owner_34 : decode cX9_owner 34 = .ok (.ireturn, 1) := by decide +kernel
set_option maxRecDepth 20000 in
theorem ggX9_openSides_X9_isBox : GoodIn wsX9_openSides wsX9_isBox := goodIn_r _ [7, 8, 9, 10, 6, 11, 12, 13, 14, 15, 16, 36, 37, 38, 39, 40, 41, 42, 43, 44, 45, 46, 47, 48, 49, 50, 51, 52, 53, 54, 55, 56, 57, 58, 59, 60] (by decide +kernel) (by decide +kernel)
set_option maxRecDepth 20000 in
theorem gX9_openSides_X9_isBox : GoodIn wsX9_openSides (wsV RX9 185 RX9 yX9_isBox wsX9_isBox) := goodIn_app (goodIn_of _ (by decide +kernel)) ggX9_openSides_X9_isBox
set_option maxRecDepth 20000 in
theorem ggX9_openSides_X9_openOf : GoodIn wsX9_openSides wsX9_openOf := goodIn_r _ [20, 21, 22, 23, 6, 24, 12, 25, 26, 27, 28, 29, 30, 31, 32, 13, 33, 34, 35, 36, 37, 38, 39, 40, 41, 42, 43, 44, 45, 46, 47, 48, 49, 50, 51, 52, 53, 54, 55, 56, 57, 58, 59, 60] (by decide +kernel) (by decide +kernel)
set_option maxRecDepth 20000 in
theorem gX9_openSides_X9_openOf : GoodIn wsX9_openSides (wsV RX9 102 RX9 yX9_openOf wsX9_openOf) := goodIn_app (goodIn_of _ (by decide +kernel)) ggX9_openSides_X9_openOf
theorem dX9_openSides_0 : decode cX9_openSides 0 = .ok (.aload_n 0, 1) := by decide +kernel
theorem dX9_openSides_1 : decode cX9_openSides 1 = .ok (.aload_n 0, 1) := by decide +kernel
theorem dX9_openSides_2 : decode cX9_openSides 2 = .ok (.iload_n 1, 1) := by decide +kernel
theorem dX9_openSides_3 : decode cX9_openSides 3 = .ok (.invokevirtual 185, 3) := by decide +kernel
theorem dX9_openSides_6 : decode cX9_openSides 6 = .ok (.ifCond .eq 7, 3) := by decide +kernel
theorem dX9_openSides_9 : decode cX9_openSides 9 = .ok (.iconst 0, 1) := by decide +kernel
theorem dX9_openSides_10 : decode cX9_openSides 10 = .ok (.goto 4, 3) := by decide +kernel
theorem dX9_openSides_13 : decode cX9_openSides 13 = .ok (.iconst 1, 1) := by decide +kernel
theorem dX9_openSides_14 : decode cX9_openSides 14 = .ok (.putfield 59, 3) := by decide +kernel
theorem dX9_openSides_17 : decode cX9_openSides 17 = .ok (.aload_n 0, 1) := by decide +kernel
theorem dX9_openSides_18 : decode cX9_openSides 18 = .ok (.getfield 59, 3) := by decide +kernel
theorem dX9_openSides_21 : decode cX9_openSides 21 = .ok (.ifCond .le 7, 3) := by decide +kernel
theorem dX9_openSides_24 : decode cX9_openSides 24 = .ok (.iconst 0, 1) := by decide +kernel
theorem dX9_openSides_25 : decode cX9_openSides 25 = .ok (.goto 12, 3) := by decide +kernel
theorem dX9_openSides_28 : decode cX9_openSides 28 = .ok (.aload_n 0, 1) := by decide +kernel
theorem dX9_openSides_29 : decode cX9_openSides 29 = .ok (.iload_n 1, 1) := by decide +kernel
theorem dX9_openSides_30 : decode cX9_openSides 30 = .ok (.aload_n 0, 1) := by decide +kernel
theorem dX9_openSides_31 : decode cX9_openSides 31 = .ok (.getfield 119, 3) := by decide +kernel
theorem dX9_openSides_34 : decode cX9_openSides 34 = .ok (.invokevirtual 102, 3) := by decide +kernel
theorem dX9_openSides_37 : decode cX9_openSides 37 = .ok (.ireturn, 1) := by decide +kernel
set_option maxRecDepth 20000 in
theorem ggX9_safeMoves_X9_firstOf : GoodIn wsX9_safeMoves wsX9_firstOf := goodIn_r _ [7, 8, 9, 10, 6, 11, 12, 13, 14, 15, 16, 17, 18, 19, 20, 21, 22, 23, 24, 25, 26, 27, 28, 29, 30, 31, 32, 33, 34, 35, 36, 37, 38, 39, 40, 41, 42, 43, 44, 45, 46, 47, 48, 49, 50, 51, 52, 53, 54, 55, 56, 57, 58, 59, 60, 61, 62, 63, 64, 65, 66, 67, 68, 69, 70, 71, 72, 73, 74, 75, 76, 77, 78, 79, 80, 81, 82, 83, 84, 85, 86, 87, 88] (by decide +kernel) (by decide +kernel)
set_option maxRecDepth 20000 in
theorem gX9_safeMoves_X9_firstOf : GoodIn wsX9_safeMoves (wsV RX9 116 RX9 yX9_firstOf wsX9_firstOf) := goodIn_app (goodIn_of _ (by decide +kernel)) ggX9_safeMoves_X9_firstOf
theorem dX9_safeMoves_0 : decode cX9_safeMoves 0 = .ok (.aload_n 0, 1) := by decide +kernel
theorem dX9_safeMoves_1 : decode cX9_safeMoves 1 = .ok (.iconst 0, 1) := by decide +kernel
theorem dX9_safeMoves_2 : decode cX9_safeMoves 2 = .ok (.putfield 59, 3) := by decide +kernel
theorem dX9_safeMoves_5 : decode cX9_safeMoves 5 = .ok (.aload_n 0, 1) := by decide +kernel
theorem dX9_safeMoves_6 : decode cX9_safeMoves 6 = .ok (.getfield 119, 3) := by decide +kernel
theorem dX9_safeMoves_9 : decode cX9_safeMoves 9 = .ok (.lstore_n 1, 1) := by decide +kernel
theorem dX9_safeMoves_10 : decode cX9_safeMoves 10 = .ok (.iconst 0, 1) := by decide +kernel
theorem dX9_safeMoves_11 : decode cX9_safeMoves 11 = .ok (.istore_n 3, 1) := by decide +kernel
theorem dX9_safeMoves_12 : decode cX9_safeMoves 12 = .ok (.aload_n 0, 1) := by decide +kernel
theorem dX9_safeMoves_13 : decode cX9_safeMoves 13 = .ok (.iconst 2, 1) := by decide +kernel
theorem dX9_safeMoves_14 : decode cX9_safeMoves 14 = .ok (.lload_n 1, 1) := by decide +kernel
theorem dX9_safeMoves_15 : decode cX9_safeMoves 15 = .ok (.invokevirtual 116, 3) := by decide +kernel
theorem dX9_safeMoves_18 : decode cX9_safeMoves 18 = .ok (.istore 4, 2) := by decide +kernel
theorem dX9_safeMoves_20 : decode cX9_safeMoves 20 = .ok (.iload 4, 2) := by decide +kernel
theorem dX9_safeMoves_22 : decode cX9_safeMoves 22 = .ok (.iconst (-1), 1) := by decide +kernel
theorem dX9_safeMoves_23 : decode cX9_safeMoves 23 = .ok (.if_icmp .eq 24, 3) := by decide +kernel
theorem dX9_safeMoves_26 : decode cX9_safeMoves 26 = .ok (.lload_n 1, 1) := by decide +kernel
theorem dX9_safeMoves_27 : decode cX9_safeMoves 27 = .ok (.lconst 1, 1) := by decide +kernel
theorem dX9_safeMoves_28 : decode cX9_safeMoves 28 = .ok (.iload 4, 2) := by decide +kernel
theorem dX9_safeMoves_30 : decode cX9_safeMoves 30 = .ok (.lshl, 1) := by decide +kernel
theorem dX9_safeMoves_31 : decode cX9_safeMoves 31 = .ok (.lor, 1) := by decide +kernel
theorem dX9_safeMoves_32 : decode cX9_safeMoves 32 = .ok (.lstore_n 1, 1) := by decide +kernel
theorem dX9_safeMoves_33 : decode cX9_safeMoves 33 = .ok (.iinc 3 1, 3) := by decide +kernel
theorem dX9_safeMoves_36 : decode cX9_safeMoves 36 = .ok (.aload_n 0, 1) := by decide +kernel
theorem dX9_safeMoves_37 : decode cX9_safeMoves 37 = .ok (.iconst 2, 1) := by decide +kernel
theorem dX9_safeMoves_38 : decode cX9_safeMoves 38 = .ok (.lload_n 1, 1) := by decide +kernel
theorem dX9_safeMoves_39 : decode cX9_safeMoves 39 = .ok (.invokevirtual 116, 3) := by decide +kernel
theorem dX9_safeMoves_42 : decode cX9_safeMoves 42 = .ok (.istore 4, 2) := by decide +kernel
theorem dX9_safeMoves_44 : decode cX9_safeMoves 44 = .ok (.goto (-24), 3) := by decide +kernel
theorem dX9_safeMoves_47 : decode cX9_safeMoves 47 = .ok (.iload_n 3, 1) := by decide +kernel
theorem dX9_safeMoves_48 : decode cX9_safeMoves 48 = .ok (.ireturn, 1) := by decide +kernel
set_option maxRecDepth 20000 in
theorem ggX9_isThin_X9_openOf : GoodIn wsX9_isThin wsX9_openOf := goodIn_r _ [6, 7, 8, 9, 5, 10, 11, 12, 13, 14, 15, 16, 17, 18, 19, 20, 21, 22, 23, 27, 28, 29, 30, 31, 32, 33, 34, 35, 36, 37, 38, 39, 40, 41, 42, 43, 44, 45, 46, 47, 48, 49, 50, 51] (by decide +kernel) (by decide +kernel)
set_option maxRecDepth 20000 in
theorem gX9_isThin_X9_openOf : GoodIn wsX9_isThin (wsV RX9 102 RX9 yX9_openOf wsX9_openOf) := goodIn_app (goodIn_of _ (by decide +kernel)) ggX9_isThin_X9_openOf
set_option maxRecDepth 20000 in
theorem ggX9_isThin_X9_within : GoodIn wsX9_isThin wsX9_within := goodIn_r _ [26] (by decide +kernel) (by decide +kernel)
set_option maxRecDepth 20000 in
theorem gX9_isThin_X9_within : GoodIn wsX9_isThin (va_wsS RX9 73 yX9_within wsX9_within) := goodIn_app (goodIn_of _ (by decide +kernel)) ggX9_isThin_X9_within
theorem dX9_isThin_0 : decode cX9_isThin 0 = .ok (.aload_n 0, 1) := by decide +kernel
theorem dX9_isThin_1 : decode cX9_isThin 1 = .ok (.iload_n 1, 1) := by decide +kernel
theorem dX9_isThin_2 : decode cX9_isThin 2 = .ok (.aload_n 0, 1) := by decide +kernel
theorem dX9_isThin_3 : decode cX9_isThin 3 = .ok (.getfield 119, 3) := by decide +kernel
theorem dX9_isThin_6 : decode cX9_isThin 6 = .ok (.invokevirtual 102, 3) := by decide +kernel
theorem dX9_isThin_9 : decode cX9_isThin 9 = .ok (.iconst 1, 1) := by decide +kernel
theorem dX9_isThin_10 : decode cX9_isThin 10 = .ok (.iconst 2, 1) := by decide +kernel
theorem dX9_isThin_11 : decode cX9_isThin 11 = .ok (.invokestatic 73, 3) := by decide +kernel
theorem dX9_isThin_14 : decode cX9_isThin 14 = .ok (.ireturn, 1) := by decide +kernel
set_option maxRecDepth 20000 in
theorem ggX9_spreads_X9_sideOf : GoodIn wsX9_spreads wsX9_sideOf := goodIn_r _ [7, 8, 9, 10, 11, 6, 12, 13, 14, 15, 16, 17, 48, 49, 50, 51, 52, 53, 54, 55, 56, 57, 58, 59, 60, 61, 62, 63, 64, 65, 66, 67, 68, 69, 70, 71, 72] (by decide +kernel) (by decide +kernel)
set_option maxRecDepth 20000 in
theorem gX9_spreads_X9_sideOf : GoodIn wsX9_spreads (wsV RX9 95 RX9 yX9_sideOf wsX9_sideOf) := goodIn_app (goodIn_of _ (by decide +kernel)) ggX9_spreads_X9_sideOf
set_option maxRecDepth 20000 in
theorem ggX9_spreads_X9_has : GoodIn wsX9_spreads wsX9_has := goodIn_r _ [20] (by decide +kernel) (by decide +kernel)
set_option maxRecDepth 20000 in
theorem gX9_spreads_X9_has : GoodIn wsX9_spreads (va_wsS RX9 62 yX9_has wsX9_has) := goodIn_app (goodIn_of _ (by decide +kernel)) ggX9_spreads_X9_has
set_option maxRecDepth 20000 in
theorem ggX9_spreads_X9_beside : GoodIn wsX9_spreads wsX9_beside := goodIn_r _ [24, 8, 17, 25, 26, 27, 6, 28, 29, 30, 31, 32, 13, 14, 15, 16, 33, 34, 35, 36, 37, 38, 39, 48, 49, 50, 51, 52, 53, 54, 55, 56, 57, 58, 59, 60, 61, 62, 63, 64, 65, 66, 67, 68, 69, 70, 71, 72] (by decide +kernel) (by decide +kernel)
set_option maxRecDepth 20000 in
theorem gX9_spreads_X9_beside : GoodIn wsX9_spreads (wsV RX9 99 RX9 yX9_beside wsX9_beside) := goodIn_app (goodIn_of _ (by decide +kernel)) ggX9_spreads_X9_beside
set_option maxRecDepth 20000 in
theorem ggX9_spreads_X9_isThin : GoodIn wsX9_spreads wsX9_isThin := goodIn_r _ [43, 1, 44, 45, 46, 6, 47, 3, 4, 5, 7, 8, 9, 10, 11, 12, 13, 14, 15, 16, 17, 18, 19, 20, 37, 38, 39, 48, 49, 50, 51, 52, 53, 54, 55, 56, 57, 58, 59, 60, 61, 62, 63, 64, 65, 66, 67, 68, 69, 70, 71, 72] (by decide +kernel) (by decide +kernel)
set_option maxRecDepth 20000 in
theorem gX9_spreads_X9_isThin : GoodIn wsX9_spreads (wsV RX9 188 RX9 yX9_isThin wsX9_isThin) := goodIn_app (goodIn_of _ (by decide +kernel)) ggX9_spreads_X9_isThin
theorem dX9_spreads_0 : decode cX9_spreads 0 = .ok (.iconst 0, 1) := by decide +kernel
theorem dX9_spreads_1 : decode cX9_spreads 1 = .ok (.istore_n 2, 1) := by decide +kernel
theorem dX9_spreads_2 : decode cX9_spreads 2 = .ok (.iconst 0, 1) := by decide +kernel
theorem dX9_spreads_3 : decode cX9_spreads 3 = .ok (.istore_n 3, 1) := by decide +kernel
theorem dX9_spreads_4 : decode cX9_spreads 4 = .ok (.iload_n 3, 1) := by decide +kernel
theorem dX9_spreads_5 : decode cX9_spreads 5 = .ok (.iconst 4, 1) := by decide +kernel
theorem dX9_spreads_6 : decode cX9_spreads 6 = .ok (.if_icmp .ge 95, 3) := by decide +kernel
theorem dX9_spreads_9 : decode cX9_spreads 9 = .ok (.aload_n 0, 1) := by decide +kernel
theorem dX9_spreads_10 : decode cX9_spreads 10 = .ok (.iload_n 1, 1) := by decide +kernel
theorem dX9_spreads_11 : decode cX9_spreads 11 = .ok (.iload_n 3, 1) := by decide +kernel
theorem dX9_spreads_12 : decode cX9_spreads 12 = .ok (.invokevirtual 95, 3) := by decide +kernel
theorem dX9_spreads_15 : decode cX9_spreads 15 = .ok (.istore 4, 2) := by decide +kernel
theorem dX9_spreads_17 : decode cX9_spreads 17 = .ok (.iconst 0, 1) := by decide +kernel
theorem dX9_spreads_18 : decode cX9_spreads 18 = .ok (.istore 5, 2) := by decide +kernel
theorem dX9_spreads_20 : decode cX9_spreads 20 = .ok (.iload 5, 2) := by decide +kernel
theorem dX9_spreads_22 : decode cX9_spreads 22 = .ok (.iconst 2, 1) := by decide +kernel
theorem dX9_spreads_23 : decode cX9_spreads 23 = .ok (.if_icmp .ge 72, 3) := by decide +kernel
theorem dX9_spreads_26 : decode cX9_spreads 26 = .ok (.aload_n 0, 1) := by decide +kernel
theorem dX9_spreads_27 : decode cX9_spreads 27 = .ok (.getfield 119, 3) := by decide +kernel
theorem dX9_spreads_30 : decode cX9_spreads 30 = .ok (.iload 4, 2) := by decide +kernel
theorem dX9_spreads_32 : decode cX9_spreads 32 = .ok (.invokestatic 62, 3) := by decide +kernel
theorem dX9_spreads_35 : decode cX9_spreads 35 = .ok (.ifCond .ne 60, 3) := by decide +kernel
theorem dX9_spreads_38 : decode cX9_spreads 38 = .ok (.aload_n 0, 1) := by decide +kernel
theorem dX9_spreads_39 : decode cX9_spreads 39 = .ok (.iload 4, 2) := by decide +kernel
theorem dX9_spreads_41 : decode cX9_spreads 41 = .ok (.iload 5, 2) := by decide +kernel
theorem dX9_spreads_43 : decode cX9_spreads 43 = .ok (.invokevirtual 99, 3) := by decide +kernel
theorem dX9_spreads_46 : decode cX9_spreads 46 = .ok (.istore 6, 2) := by decide +kernel
theorem dX9_spreads_48 : decode cX9_spreads 48 = .ok (.iload 6, 2) := by decide +kernel
theorem dX9_spreads_50 : decode cX9_spreads 50 = .ok (.iconst (-1), 1) := by decide +kernel
theorem dX9_spreads_51 : decode cX9_spreads 51 = .ok (.if_icmp .eq 38, 3) := by decide +kernel
theorem dX9_spreads_54 : decode cX9_spreads 54 = .ok (.aload_n 0, 1) := by decide +kernel
theorem dX9_spreads_55 : decode cX9_spreads 55 = .ok (.iload 6, 2) := by decide +kernel
theorem dX9_spreads_57 : decode cX9_spreads 57 = .ok (.invokevirtual 188, 3) := by decide +kernel
theorem dX9_spreads_60 : decode cX9_spreads 60 = .ok (.ifCond .eq 29, 3) := by decide +kernel
theorem dX9_spreads_63 : decode cX9_spreads 63 = .ok (.aload_n 0, 1) := by decide +kernel
theorem dX9_spreads_64 : decode cX9_spreads 64 = .ok (.getfield 29, 3) := by decide +kernel
theorem dX9_spreads_67 : decode cX9_spreads 67 = .ok (.iload 6, 2) := by decide +kernel
theorem dX9_spreads_69 : decode cX9_spreads 69 = .ok (.iaload, 1) := by decide +kernel
theorem dX9_spreads_70 : decode cX9_spreads 70 = .ok (.iconst (-1), 1) := by decide +kernel
theorem dX9_spreads_71 : decode cX9_spreads 71 = .ok (.if_icmp .ne 18, 3) := by decide +kernel
theorem dX9_spreads_74 : decode cX9_spreads 74 = .ok (.aload_n 0, 1) := by decide +kernel
theorem dX9_spreads_75 : decode cX9_spreads 75 = .ok (.getfield 29, 3) := by decide +kernel
theorem dX9_spreads_78 : decode cX9_spreads 78 = .ok (.iload 6, 2) := by decide +kernel
theorem dX9_spreads_80 : decode cX9_spreads 80 = .ok (.aload_n 0, 1) := by decide +kernel
theorem dX9_spreads_81 : decode cX9_spreads 81 = .ok (.getfield 29, 3) := by decide +kernel
theorem dX9_spreads_84 : decode cX9_spreads 84 = .ok (.iload_n 1, 1) := by decide +kernel
theorem dX9_spreads_85 : decode cX9_spreads 85 = .ok (.iaload, 1) := by decide +kernel
theorem dX9_spreads_86 : decode cX9_spreads 86 = .ok (.iastore, 1) := by decide +kernel
theorem dX9_spreads_87 : decode cX9_spreads 87 = .ok (.iconst 1, 1) := by decide +kernel
theorem dX9_spreads_88 : decode cX9_spreads 88 = .ok (.istore_n 2, 1) := by decide +kernel
theorem dX9_spreads_89 : decode cX9_spreads 89 = .ok (.iinc 5 1, 3) := by decide +kernel
theorem dX9_spreads_92 : decode cX9_spreads 92 = .ok (.goto (-72), 3) := by decide +kernel
theorem dX9_spreads_95 : decode cX9_spreads 95 = .ok (.iinc 3 1, 3) := by decide +kernel
theorem dX9_spreads_98 : decode cX9_spreads 98 = .ok (.goto (-94), 3) := by decide +kernel
theorem dX9_spreads_101 : decode cX9_spreads 101 = .ok (.iload_n 2, 1) := by decide +kernel
theorem dX9_spreads_102 : decode cX9_spreads 102 = .ok (.ireturn, 1) := by decide +kernel
set_option maxRecDepth 20000 in
theorem ggX9_fillString_X9_boxes : GoodIn wsX9_fillString wsX9_boxes := goodIn_r _ [6, 7, 8, 56, 57, 58, 59, 60, 61, 62, 63, 64, 65, 66, 67, 68, 69, 70, 71, 72, 73, 74, 75, 76, 77, 78, 79, 80] (by decide +kernel) (by decide +kernel)
set_option maxRecDepth 20000 in
theorem gX9_fillString_X9_boxes : GoodIn wsX9_fillString (wsV RX9 77 RX9 yX9_boxes wsX9_boxes) := goodIn_app (goodIn_of _ (by decide +kernel)) ggX9_fillString_X9_boxes
set_option maxRecDepth 20000 in
theorem ggX9_fillString_X9_spreads : GoodIn wsX9_fillString wsX9_spreads := goodIn_r _ [12, 13, 1, 14, 15, 16, 5, 17, 7, 18, 19, 20, 21, 22, 23, 24, 25, 8, 26, 27, 28, 29, 30, 31, 32, 33, 34, 35, 36, 37, 38, 39, 40, 41, 42, 43, 44, 45, 46, 47, 48, 49, 50, 51, 52, 53, 54, 55, 56, 57, 58, 59, 60, 61, 62, 63, 64, 65, 66, 67, 68, 69, 70, 71, 72, 73, 74, 75, 76, 77, 78, 79, 80] (by decide +kernel) (by decide +kernel)
set_option maxRecDepth 20000 in
theorem gX9_fillString_X9_spreads : GoodIn wsX9_fillString (wsV RX9 191 RX9 yX9_spreads wsX9_spreads) := goodIn_app (goodIn_of _ (by decide +kernel)) ggX9_fillString_X9_spreads
theorem dX9_fillString_0 : decode cX9_fillString 0 = .ok (.iconst 1, 1) := by decide +kernel
theorem dX9_fillString_1 : decode cX9_fillString 1 = .ok (.istore_n 2, 1) := by decide +kernel
theorem dX9_fillString_2 : decode cX9_fillString 2 = .ok (.iload_n 2, 1) := by decide +kernel
theorem dX9_fillString_3 : decode cX9_fillString 3 = .ok (.ifCond .eq 52, 3) := by decide +kernel
theorem dX9_fillString_6 : decode cX9_fillString 6 = .ok (.iconst 0, 1) := by decide +kernel
theorem dX9_fillString_7 : decode cX9_fillString 7 = .ok (.istore_n 2, 1) := by decide +kernel
theorem dX9_fillString_8 : decode cX9_fillString 8 = .ok (.iconst 0, 1) := by decide +kernel
theorem dX9_fillString_9 : decode cX9_fillString 9 = .ok (.istore_n 3, 1) := by decide +kernel
theorem dX9_fillString_10 : decode cX9_fillString 10 = .ok (.iload_n 3, 1) := by decide +kernel
theorem dX9_fillString_11 : decode cX9_fillString 11 = .ok (.aload_n 0, 1) := by decide +kernel
theorem dX9_fillString_12 : decode cX9_fillString 12 = .ok (.invokevirtual 77, 3) := by decide +kernel
theorem dX9_fillString_15 : decode cX9_fillString 15 = .ok (.if_icmp .ge 37, 3) := by decide +kernel
theorem dX9_fillString_18 : decode cX9_fillString 18 = .ok (.aload_n 0, 1) := by decide +kernel
theorem dX9_fillString_19 : decode cX9_fillString 19 = .ok (.getfield 29, 3) := by decide +kernel
theorem dX9_fillString_22 : decode cX9_fillString 22 = .ok (.iload_n 3, 1) := by decide +kernel
theorem dX9_fillString_23 : decode cX9_fillString 23 = .ok (.iaload, 1) := by decide +kernel
theorem dX9_fillString_24 : decode cX9_fillString 24 = .ok (.iload_n 1, 1) := by decide +kernel
theorem dX9_fillString_25 : decode cX9_fillString 25 = .ok (.if_icmp .ne 11, 3) := by decide +kernel
theorem dX9_fillString_28 : decode cX9_fillString 28 = .ok (.aload_n 0, 1) := by decide +kernel
theorem dX9_fillString_29 : decode cX9_fillString 29 = .ok (.iload_n 3, 1) := by decide +kernel
theorem dX9_fillString_30 : decode cX9_fillString 30 = .ok (.invokevirtual 191, 3) := by decide +kernel
theorem dX9_fillString_33 : decode cX9_fillString 33 = .ok (.ifCond .ne 7, 3) := by decide +kernel
theorem dX9_fillString_36 : decode cX9_fillString 36 = .ok (.iload_n 2, 1) := by decide +kernel
theorem dX9_fillString_37 : decode cX9_fillString 37 = .ok (.ifCond .eq 7, 3) := by decide +kernel
theorem dX9_fillString_40 : decode cX9_fillString 40 = .ok (.iconst 1, 1) := by decide +kernel
theorem dX9_fillString_41 : decode cX9_fillString 41 = .ok (.goto 4, 3) := by decide +kernel
theorem dX9_fillString_44 : decode cX9_fillString 44 = .ok (.iconst 0, 1) := by decide +kernel
theorem dX9_fillString_45 : decode cX9_fillString 45 = .ok (.istore_n 2, 1) := by decide +kernel
theorem dX9_fillString_46 : decode cX9_fillString 46 = .ok (.iinc 3 1, 3) := by decide +kernel
theorem dX9_fillString_49 : decode cX9_fillString 49 = .ok (.goto (-39), 3) := by decide +kernel
theorem dX9_fillString_52 : decode cX9_fillString 52 = .ok (.goto (-50), 3) := by decide +kernel
theorem dX9_fillString_55 : decode cX9_fillString 55 = .ok (.return_, 1) := by decide +kernel
set_option maxRecDepth 20000 in
theorem ggX9_goesRound_X9_openOf : GoodIn wsX9_goesRound wsX9_openOf := goodIn_r _ [6, 7, 8, 9, 5, 10, 11, 12, 13, 14, 15, 16, 17, 18, 19, 20, 21, 22, 23, 47, 48, 49, 50, 51, 52, 53, 54, 55, 56, 57, 58, 59, 60, 61, 62, 63, 64, 65, 66, 67, 68, 69, 70, 71] (by decide +kernel) (by decide +kernel)
set_option maxRecDepth 20000 in
theorem gX9_goesRound_X9_openOf : GoodIn wsX9_goesRound (wsV RX9 102 RX9 yX9_openOf wsX9_openOf) := goodIn_app (goodIn_of _ (by decide +kernel)) ggX9_goesRound_X9_openOf
set_option maxRecDepth 20000 in
theorem ggX9_goesRound_X9_sideOf : GoodIn wsX9_goesRound wsX9_sideOf := goodIn_r _ [10, 11, 12, 13, 14, 5, 15, 16, 17, 18, 19, 20, 47, 48, 49, 50, 51, 52, 53, 54, 55, 56, 57, 58, 59, 60, 61, 62, 63, 64, 65, 66, 67, 68, 69, 70, 71] (by decide +kernel) (by decide +kernel)
set_option maxRecDepth 20000 in
theorem gX9_goesRound_X9_sideOf : GoodIn wsX9_goesRound (wsV RX9 95 RX9 yX9_sideOf wsX9_sideOf) := goodIn_app (goodIn_of _ (by decide +kernel)) ggX9_goesRound_X9_sideOf
set_option maxRecDepth 20000 in
theorem ggX9_goesRound_X9_has : GoodIn wsX9_goesRound wsX9_has := goodIn_r _ [23] (by decide +kernel) (by decide +kernel)
set_option maxRecDepth 20000 in
theorem gX9_goesRound_X9_has : GoodIn wsX9_goesRound (va_wsS RX9 62 yX9_has wsX9_has) := goodIn_app (goodIn_of _ (by decide +kernel)) ggX9_goesRound_X9_has
set_option maxRecDepth 20000 in
theorem ggX9_goesRound_X9_beside : GoodIn wsX9_goesRound wsX9_beside := goodIn_r _ [27, 11, 20, 28, 29, 30, 5, 31, 32, 33, 34, 35, 16, 17, 18, 19, 36, 37, 38, 39, 40, 41, 42, 47, 48, 49, 50, 51, 52, 53, 54, 55, 56, 57, 58, 59, 60, 61, 62, 63, 64, 65, 66, 67, 68, 69, 70, 71] (by decide +kernel) (by decide +kernel)
set_option maxRecDepth 20000 in
theorem gX9_goesRound_X9_beside : GoodIn wsX9_goesRound (wsV RX9 99 RX9 yX9_beside wsX9_beside) := goodIn_app (goodIn_of _ (by decide +kernel)) ggX9_goesRound_X9_beside
set_option maxRecDepth 20000 in
theorem ggX9_goesRound_X9_isThin : GoodIn wsX9_goesRound wsX9_isThin := goodIn_r _ [46, 1, 2, 3, 4, 5, 6, 7, 8, 9, 10, 11, 12, 13, 14, 15, 16, 17, 18, 19, 20, 21, 22, 23, 40, 41, 42, 47, 48, 49, 50, 51, 52, 53, 54, 55, 56, 57, 58, 59, 60, 61, 62, 63, 64, 65, 66, 67, 68, 69, 70, 71] (by decide +kernel) (by decide +kernel)
set_option maxRecDepth 20000 in
theorem gX9_goesRound_X9_isThin : GoodIn wsX9_goesRound (wsV RX9 188 RX9 yX9_isThin wsX9_isThin) := goodIn_app (goodIn_of _ (by decide +kernel)) ggX9_goesRound_X9_isThin
theorem dX9_goesRound_0 : decode cX9_goesRound 0 = .ok (.aload_n 0, 1) := by decide +kernel
theorem dX9_goesRound_1 : decode cX9_goesRound 1 = .ok (.iload_n 1, 1) := by decide +kernel
theorem dX9_goesRound_2 : decode cX9_goesRound 2 = .ok (.aload_n 0, 1) := by decide +kernel
theorem dX9_goesRound_3 : decode cX9_goesRound 3 = .ok (.getfield 119, 3) := by decide +kernel
theorem dX9_goesRound_6 : decode cX9_goesRound 6 = .ok (.invokevirtual 102, 3) := by decide +kernel
theorem dX9_goesRound_9 : decode cX9_goesRound 9 = .ok (.iconst 2, 1) := by decide +kernel
theorem dX9_goesRound_10 : decode cX9_goesRound 10 = .ok (.if_icmp .ne 7, 3) := by decide +kernel
theorem dX9_goesRound_13 : decode cX9_goesRound 13 = .ok (.iconst 1, 1) := by decide +kernel
theorem dX9_goesRound_14 : decode cX9_goesRound 14 = .ok (.goto 4, 3) := by decide +kernel
theorem dX9_goesRound_17 : decode cX9_goesRound 17 = .ok (.iconst 0, 1) := by decide +kernel
theorem dX9_goesRound_18 : decode cX9_goesRound 18 = .ok (.istore_n 2, 1) := by decide +kernel
theorem dX9_goesRound_19 : decode cX9_goesRound 19 = .ok (.iconst 0, 1) := by decide +kernel
theorem dX9_goesRound_20 : decode cX9_goesRound 20 = .ok (.istore_n 3, 1) := by decide +kernel
theorem dX9_goesRound_21 : decode cX9_goesRound 21 = .ok (.iload_n 3, 1) := by decide +kernel
theorem dX9_goesRound_22 : decode cX9_goesRound 22 = .ok (.iconst 4, 1) := by decide +kernel
theorem dX9_goesRound_23 : decode cX9_goesRound 23 = .ok (.if_icmp .ge 79, 3) := by decide +kernel
theorem dX9_goesRound_26 : decode cX9_goesRound 26 = .ok (.aload_n 0, 1) := by decide +kernel
theorem dX9_goesRound_27 : decode cX9_goesRound 27 = .ok (.iload_n 1, 1) := by decide +kernel
theorem dX9_goesRound_28 : decode cX9_goesRound 28 = .ok (.iload_n 3, 1) := by decide +kernel
theorem dX9_goesRound_29 : decode cX9_goesRound 29 = .ok (.invokevirtual 95, 3) := by decide +kernel
theorem dX9_goesRound_32 : decode cX9_goesRound 32 = .ok (.istore 4, 2) := by decide +kernel
theorem dX9_goesRound_34 : decode cX9_goesRound 34 = .ok (.iconst 0, 1) := by decide +kernel
theorem dX9_goesRound_35 : decode cX9_goesRound 35 = .ok (.istore 5, 2) := by decide +kernel
theorem dX9_goesRound_37 : decode cX9_goesRound 37 = .ok (.iload 5, 2) := by decide +kernel
theorem dX9_goesRound_39 : decode cX9_goesRound 39 = .ok (.iconst 2, 1) := by decide +kernel
theorem dX9_goesRound_40 : decode cX9_goesRound 40 = .ok (.if_icmp .ge 56, 3) := by decide +kernel
theorem dX9_goesRound_43 : decode cX9_goesRound 43 = .ok (.aload_n 0, 1) := by decide +kernel
theorem dX9_goesRound_44 : decode cX9_goesRound 44 = .ok (.getfield 119, 3) := by decide +kernel
theorem dX9_goesRound_47 : decode cX9_goesRound 47 = .ok (.iload 4, 2) := by decide +kernel
theorem dX9_goesRound_49 : decode cX9_goesRound 49 = .ok (.invokestatic 62, 3) := by decide +kernel
theorem dX9_goesRound_52 : decode cX9_goesRound 52 = .ok (.ifCond .ne 44, 3) := by decide +kernel
theorem dX9_goesRound_55 : decode cX9_goesRound 55 = .ok (.aload_n 0, 1) := by decide +kernel
theorem dX9_goesRound_56 : decode cX9_goesRound 56 = .ok (.iload 4, 2) := by decide +kernel
theorem dX9_goesRound_58 : decode cX9_goesRound 58 = .ok (.iload 5, 2) := by decide +kernel
theorem dX9_goesRound_60 : decode cX9_goesRound 60 = .ok (.invokevirtual 99, 3) := by decide +kernel
theorem dX9_goesRound_63 : decode cX9_goesRound 63 = .ok (.istore 6, 2) := by decide +kernel
theorem dX9_goesRound_65 : decode cX9_goesRound 65 = .ok (.iload_n 2, 1) := by decide +kernel
theorem dX9_goesRound_66 : decode cX9_goesRound 66 = .ok (.ifCond .eq 22, 3) := by decide +kernel
theorem dX9_goesRound_69 : decode cX9_goesRound 69 = .ok (.iload 6, 2) := by decide +kernel
theorem dX9_goesRound_71 : decode cX9_goesRound 71 = .ok (.iconst (-1), 1) := by decide +kernel
theorem dX9_goesRound_72 : decode cX9_goesRound 72 = .ok (.if_icmp .eq 16, 3) := by decide +kernel
theorem dX9_goesRound_75 : decode cX9_goesRound 75 = .ok (.aload_n 0, 1) := by decide +kernel
theorem dX9_goesRound_76 : decode cX9_goesRound 76 = .ok (.iload 6, 2) := by decide +kernel
theorem dX9_goesRound_78 : decode cX9_goesRound 78 = .ok (.invokevirtual 188, 3) := by decide +kernel
theorem dX9_goesRound_81 : decode cX9_goesRound 81 = .ok (.ifCond .eq 7, 3) := by decide +kernel
theorem dX9_goesRound_84 : decode cX9_goesRound 84 = .ok (.iconst 1, 1) := by decide +kernel
theorem dX9_goesRound_85 : decode cX9_goesRound 85 = .ok (.goto 4, 3) := by decide +kernel
theorem dX9_goesRound_88 : decode cX9_goesRound 88 = .ok (.iconst 0, 1) := by decide +kernel
theorem dX9_goesRound_89 : decode cX9_goesRound 89 = .ok (.istore_n 2, 1) := by decide +kernel
theorem dX9_goesRound_90 : decode cX9_goesRound 90 = .ok (.iinc 5 1, 3) := by decide +kernel
theorem dX9_goesRound_93 : decode cX9_goesRound 93 = .ok (.goto (-56), 3) := by decide +kernel
theorem dX9_goesRound_96 : decode cX9_goesRound 96 = .ok (.iinc 3 1, 3) := by decide +kernel
theorem dX9_goesRound_99 : decode cX9_goesRound 99 = .ok (.goto (-78), 3) := by decide +kernel
theorem dX9_goesRound_102 : decode cX9_goesRound 102 = .ok (.iload_n 2, 1) := by decide +kernel
theorem dX9_goesRound_103 : decode cX9_goesRound 103 = .ok (.ireturn, 1) := by decide +kernel
set_option maxRecDepth 20000 in
theorem ggX9_layStrings_X9_boxes : GoodIn wsX9_layStrings wsX9_boxes := goodIn_r _ [11, 12, 13, 68, 69, 70, 71, 72, 73, 74, 75, 76, 77, 78, 79, 80, 81, 82, 83, 84, 85, 86, 87, 88, 89, 90, 91, 92] (by decide +kernel) (by decide +kernel)
set_option maxRecDepth 20000 in
theorem gX9_layStrings_X9_boxes : GoodIn wsX9_layStrings (wsV RX9 77 RX9 yX9_boxes wsX9_boxes) := goodIn_app (goodIn_of _ (by decide +kernel)) ggX9_layStrings_X9_boxes
set_option maxRecDepth 20000 in
theorem ggX9_layStrings_X9_isThin : GoodIn wsX9_layStrings wsX9_isThin := goodIn_r _ [17, 6, 18, 19, 20, 10, 21, 22, 23, 24, 25, 12, 26, 27, 28, 29, 30, 31, 32, 33, 13, 34, 35, 36, 37, 38, 39, 68, 69, 70, 71, 72, 73, 74, 75, 76, 77, 78, 79, 80, 81, 82, 83, 84, 85, 86, 87, 88, 89, 90, 91, 92] (by decide +kernel) (by decide +kernel)
set_option maxRecDepth 20000 in
theorem gX9_layStrings_X9_isThin : GoodIn wsX9_layStrings (wsV RX9 188 RX9 yX9_isThin wsX9_isThin) := goodIn_app (goodIn_of _ (by decide +kernel)) ggX9_layStrings_X9_isThin
set_option maxRecDepth 20000 in
theorem ggX9_layStrings_X9_fillString : GoodIn wsX9_layStrings wsX9_fillString := goodIn_r _ [43, 2, 7, 8, 9, 10, 11, 12, 13, 44, 45, 46, 47, 6, 22, 23, 24, 25, 26, 27, 28, 29, 30, 31, 32, 33, 34, 35, 36, 48, 49, 50, 51, 52, 53, 54, 55, 56, 57, 58, 59, 60, 61, 62, 63, 37, 38, 39, 14, 15, 16, 17, 18, 19, 20, 21, 68, 69, 70, 71, 72, 73, 74, 75, 76, 77, 78, 79, 80, 81, 82, 83, 84, 85, 86, 87, 88, 89, 90, 91, 92] (by decide +kernel) (by decide +kernel)
set_option maxRecDepth 20000 in
theorem gX9_layStrings_X9_fillString : GoodIn wsX9_layStrings (wsV RX9 197 RX9 yX9_fillString wsX9_fillString) := goodIn_app (goodIn_of _ (by decide +kernel)) ggX9_layStrings_X9_fillString
set_option maxRecDepth 20000 in
theorem ggX9_layStrings_X9_goesRound : GoodIn wsX9_layStrings wsX9_goesRound := goodIn_r _ [67, 6, 18, 19, 20, 10, 21, 22, 23, 24, 25, 12, 26, 27, 28, 29, 30, 31, 32, 33, 13, 34, 35, 36, 48, 49, 50, 51, 52, 53, 54, 55, 56, 57, 58, 59, 60, 61, 62, 63, 37, 38, 39, 14, 15, 16, 17, 68, 69, 70, 71, 72, 73, 74, 75, 76, 77, 78, 79, 80, 81, 82, 83, 84, 85, 86, 87, 88, 89, 90, 91, 92] (by decide +kernel) (by decide +kernel)
set_option maxRecDepth 20000 in
theorem gX9_layStrings_X9_goesRound : GoodIn wsX9_layStrings (wsV RX9 201 RX9 yX9_goesRound wsX9_goesRound) := goodIn_app (goodIn_of _ (by decide +kernel)) ggX9_layStrings_X9_goesRound
set_option maxRecDepth 20000 in
theorem ggX9_layStrings_X9_openOf : GoodIn wsX9_layStrings wsX9_openOf := goodIn_r _ [21, 22, 23, 24, 10, 25, 12, 26, 27, 28, 29, 30, 31, 32, 33, 13, 34, 35, 36, 68, 69, 70, 71, 72, 73, 74, 75, 76, 77, 78, 79, 80, 81, 82, 83, 84, 85, 86, 87, 88, 89, 90, 91, 92] (by decide +kernel) (by decide +kernel)
set_option maxRecDepth 20000 in
theorem gX9_layStrings_X9_openOf : GoodIn wsX9_layStrings (wsV RX9 102 RX9 yX9_openOf wsX9_openOf) := goodIn_app (goodIn_of _ (by decide +kernel)) ggX9_layStrings_X9_openOf
theorem dX9_layStrings_0 : decode cX9_layStrings 0 = .ok (.aload_n 0, 1) := by decide +kernel
theorem dX9_layStrings_1 : decode cX9_layStrings 1 = .ok (.iconst 0, 1) := by decide +kernel
theorem dX9_layStrings_2 : decode cX9_layStrings 2 = .ok (.putfield 194, 3) := by decide +kernel
theorem dX9_layStrings_5 : decode cX9_layStrings 5 = .ok (.iconst 0, 1) := by decide +kernel
theorem dX9_layStrings_6 : decode cX9_layStrings 6 = .ok (.istore_n 1, 1) := by decide +kernel
theorem dX9_layStrings_7 : decode cX9_layStrings 7 = .ok (.iload_n 1, 1) := by decide +kernel
theorem dX9_layStrings_8 : decode cX9_layStrings 8 = .ok (.aload_n 0, 1) := by decide +kernel
theorem dX9_layStrings_9 : decode cX9_layStrings 9 = .ok (.invokevirtual 77, 3) := by decide +kernel
theorem dX9_layStrings_12 : decode cX9_layStrings 12 = .ok (.if_icmp .ge 16, 3) := by decide +kernel
theorem dX9_layStrings_15 : decode cX9_layStrings 15 = .ok (.aload_n 0, 1) := by decide +kernel
theorem dX9_layStrings_16 : decode cX9_layStrings 16 = .ok (.getfield 29, 3) := by decide +kernel
theorem dX9_layStrings_19 : decode cX9_layStrings 19 = .ok (.iload_n 1, 1) := by decide +kernel
theorem dX9_layStrings_20 : decode cX9_layStrings 20 = .ok (.iconst (-1), 1) := by decide +kernel
theorem dX9_layStrings_21 : decode cX9_layStrings 21 = .ok (.iastore, 1) := by decide +kernel
theorem dX9_layStrings_22 : decode cX9_layStrings 22 = .ok (.iinc 1 1, 3) := by decide +kernel
theorem dX9_layStrings_25 : decode cX9_layStrings 25 = .ok (.goto (-18), 3) := by decide +kernel
theorem dX9_layStrings_28 : decode cX9_layStrings 28 = .ok (.iconst 0, 1) := by decide +kernel
theorem dX9_layStrings_29 : decode cX9_layStrings 29 = .ok (.istore_n 1, 1) := by decide +kernel
theorem dX9_layStrings_30 : decode cX9_layStrings 30 = .ok (.iload_n 1, 1) := by decide +kernel
theorem dX9_layStrings_31 : decode cX9_layStrings 31 = .ok (.aload_n 0, 1) := by decide +kernel
theorem dX9_layStrings_32 : decode cX9_layStrings 32 = .ok (.invokevirtual 77, 3) := by decide +kernel
theorem dX9_layStrings_35 : decode cX9_layStrings 35 = .ok (.if_icmp .ge 55, 3) := by decide +kernel
theorem dX9_layStrings_38 : decode cX9_layStrings 38 = .ok (.aload_n 0, 1) := by decide +kernel
theorem dX9_layStrings_39 : decode cX9_layStrings 39 = .ok (.iload_n 1, 1) := by decide +kernel
theorem dX9_layStrings_40 : decode cX9_layStrings 40 = .ok (.invokevirtual 188, 3) := by decide +kernel
theorem dX9_layStrings_43 : decode cX9_layStrings 43 = .ok (.ifCond .eq 41, 3) := by decide +kernel
theorem dX9_layStrings_46 : decode cX9_layStrings 46 = .ok (.aload_n 0, 1) := by decide +kernel
theorem dX9_layStrings_47 : decode cX9_layStrings 47 = .ok (.getfield 29, 3) := by decide +kernel
theorem dX9_layStrings_50 : decode cX9_layStrings 50 = .ok (.iload_n 1, 1) := by decide +kernel
theorem dX9_layStrings_51 : decode cX9_layStrings 51 = .ok (.iaload, 1) := by decide +kernel
theorem dX9_layStrings_52 : decode cX9_layStrings 52 = .ok (.iconst (-1), 1) := by decide +kernel
theorem dX9_layStrings_53 : decode cX9_layStrings 53 = .ok (.if_icmp .ne 31, 3) := by decide +kernel
theorem dX9_layStrings_56 : decode cX9_layStrings 56 = .ok (.aload_n 0, 1) := by decide +kernel
theorem dX9_layStrings_57 : decode cX9_layStrings 57 = .ok (.getfield 29, 3) := by decide +kernel
theorem dX9_layStrings_60 : decode cX9_layStrings 60 = .ok (.iload_n 1, 1) := by decide +kernel
theorem dX9_layStrings_61 : decode cX9_layStrings 61 = .ok (.aload_n 0, 1) := by decide +kernel
theorem dX9_layStrings_62 : decode cX9_layStrings 62 = .ok (.getfield 194, 3) := by decide +kernel
theorem dX9_layStrings_65 : decode cX9_layStrings 65 = .ok (.iastore, 1) := by decide +kernel
theorem dX9_layStrings_66 : decode cX9_layStrings 66 = .ok (.aload_n 0, 1) := by decide +kernel
theorem dX9_layStrings_67 : decode cX9_layStrings 67 = .ok (.aload_n 0, 1) := by decide +kernel
theorem dX9_layStrings_68 : decode cX9_layStrings 68 = .ok (.getfield 194, 3) := by decide +kernel
theorem dX9_layStrings_71 : decode cX9_layStrings 71 = .ok (.invokevirtual 197, 3) := by decide +kernel
theorem dX9_layStrings_74 : decode cX9_layStrings 74 = .ok (.aload_n 0, 1) := by decide +kernel
theorem dX9_layStrings_75 : decode cX9_layStrings 75 = .ok (.dup, 1) := by decide +kernel
theorem dX9_layStrings_76 : decode cX9_layStrings 76 = .ok (.getfield 194, 3) := by decide +kernel
theorem dX9_layStrings_79 : decode cX9_layStrings 79 = .ok (.iconst 1, 1) := by decide +kernel
theorem dX9_layStrings_80 : decode cX9_layStrings 80 = .ok (.iadd, 1) := by decide +kernel
theorem dX9_layStrings_81 : decode cX9_layStrings 81 = .ok (.putfield 194, 3) := by decide +kernel
theorem dX9_layStrings_84 : decode cX9_layStrings 84 = .ok (.iinc 1 1, 3) := by decide +kernel
theorem dX9_layStrings_87 : decode cX9_layStrings 87 = .ok (.goto (-57), 3) := by decide +kernel
theorem dX9_layStrings_90 : decode cX9_layStrings 90 = .ok (.iconst 0, 1) := by decide +kernel
theorem dX9_layStrings_91 : decode cX9_layStrings 91 = .ok (.istore_n 1, 1) := by decide +kernel
theorem dX9_layStrings_92 : decode cX9_layStrings 92 = .ok (.iload_n 1, 1) := by decide +kernel
theorem dX9_layStrings_93 : decode cX9_layStrings 93 = .ok (.aload_n 0, 1) := by decide +kernel
theorem dX9_layStrings_94 : decode cX9_layStrings 94 = .ok (.getfield 194, 3) := by decide +kernel
theorem dX9_layStrings_97 : decode cX9_layStrings 97 = .ok (.if_icmp .ge 149, 3) := by decide +kernel
theorem dX9_layStrings_100 : decode cX9_layStrings 100 = .ok (.aload_n 0, 1) := by decide +kernel
theorem dX9_layStrings_101 : decode cX9_layStrings 101 = .ok (.getfield 32, 3) := by decide +kernel
theorem dX9_layStrings_104 : decode cX9_layStrings 104 = .ok (.iload_n 1, 1) := by decide +kernel
theorem dX9_layStrings_105 : decode cX9_layStrings 105 = .ok (.iconst 0, 1) := by decide +kernel
theorem dX9_layStrings_106 : decode cX9_layStrings 106 = .ok (.iastore, 1) := by decide +kernel
theorem dX9_layStrings_107 : decode cX9_layStrings 107 = .ok (.aload_n 0, 1) := by decide +kernel
theorem dX9_layStrings_108 : decode cX9_layStrings 108 = .ok (.getfield 35, 3) := by decide +kernel
theorem dX9_layStrings_111 : decode cX9_layStrings 111 = .ok (.iload_n 1, 1) := by decide +kernel
theorem dX9_layStrings_112 : decode cX9_layStrings 112 = .ok (.iconst 1, 1) := by decide +kernel
theorem dX9_layStrings_113 : decode cX9_layStrings 113 = .ok (.bastore, 1) := by decide +kernel
theorem dX9_layStrings_114 : decode cX9_layStrings 114 = .ok (.aload_n 0, 1) := by decide +kernel
theorem dX9_layStrings_115 : decode cX9_layStrings 115 = .ok (.getfield 39, 3) := by decide +kernel
theorem dX9_layStrings_118 : decode cX9_layStrings 118 = .ok (.iload_n 1, 1) := by decide +kernel
theorem dX9_layStrings_119 : decode cX9_layStrings 119 = .ok (.iconst 0, 1) := by decide +kernel
theorem dX9_layStrings_120 : decode cX9_layStrings 120 = .ok (.bastore, 1) := by decide +kernel
theorem dX9_layStrings_121 : decode cX9_layStrings 121 = .ok (.iconst 0, 1) := by decide +kernel
theorem dX9_layStrings_122 : decode cX9_layStrings 122 = .ok (.istore_n 2, 1) := by decide +kernel
theorem dX9_layStrings_123 : decode cX9_layStrings 123 = .ok (.iload_n 2, 1) := by decide +kernel
theorem dX9_layStrings_124 : decode cX9_layStrings 124 = .ok (.aload_n 0, 1) := by decide +kernel
theorem dX9_layStrings_125 : decode cX9_layStrings 125 = .ok (.invokevirtual 77, 3) := by decide +kernel
theorem dX9_layStrings_128 : decode cX9_layStrings 128 = .ok (.if_icmp .ge 112, 3) := by decide +kernel
theorem dX9_layStrings_131 : decode cX9_layStrings 131 = .ok (.aload_n 0, 1) := by decide +kernel
theorem dX9_layStrings_132 : decode cX9_layStrings 132 = .ok (.getfield 29, 3) := by decide +kernel
theorem dX9_layStrings_135 : decode cX9_layStrings 135 = .ok (.iload_n 2, 1) := by decide +kernel
theorem dX9_layStrings_136 : decode cX9_layStrings 136 = .ok (.iaload, 1) := by decide +kernel
theorem dX9_layStrings_137 : decode cX9_layStrings 137 = .ok (.iload_n 1, 1) := by decide +kernel
theorem dX9_layStrings_138 : decode cX9_layStrings 138 = .ok (.if_icmp .ne 7, 3) := by decide +kernel
theorem dX9_layStrings_141 : decode cX9_layStrings 141 = .ok (.iconst 1, 1) := by decide +kernel
theorem dX9_layStrings_142 : decode cX9_layStrings 142 = .ok (.goto 4, 3) := by decide +kernel
theorem dX9_layStrings_145 : decode cX9_layStrings 145 = .ok (.iconst 0, 1) := by decide +kernel
theorem dX9_layStrings_146 : decode cX9_layStrings 146 = .ok (.istore_n 3, 1) := by decide +kernel
theorem dX9_layStrings_147 : decode cX9_layStrings 147 = .ok (.aload_n 0, 1) := by decide +kernel
theorem dX9_layStrings_148 : decode cX9_layStrings 148 = .ok (.getfield 32, 3) := by decide +kernel
theorem dX9_layStrings_151 : decode cX9_layStrings 151 = .ok (.iload_n 1, 1) := by decide +kernel
theorem dX9_layStrings_152 : decode cX9_layStrings 152 = .ok (.dup2, 1) := by decide +kernel
theorem dX9_layStrings_153 : decode cX9_layStrings 153 = .ok (.iaload, 1) := by decide +kernel
theorem dX9_layStrings_154 : decode cX9_layStrings 154 = .ok (.iload_n 3, 1) := by decide +kernel
theorem dX9_layStrings_155 : decode cX9_layStrings 155 = .ok (.ifCond .eq 7, 3) := by decide +kernel
theorem dX9_layStrings_158 : decode cX9_layStrings 158 = .ok (.iconst 1, 1) := by decide +kernel
theorem dX9_layStrings_159 : decode cX9_layStrings 159 = .ok (.goto 4, 3) := by decide +kernel
theorem dX9_layStrings_162 : decode cX9_layStrings 162 = .ok (.iconst 0, 1) := by decide +kernel
theorem dX9_layStrings_163 : decode cX9_layStrings 163 = .ok (.iadd, 1) := by decide +kernel
theorem dX9_layStrings_164 : decode cX9_layStrings 164 = .ok (.iastore, 1) := by decide +kernel
theorem dX9_layStrings_165 : decode cX9_layStrings 165 = .ok (.aload_n 0, 1) := by decide +kernel
theorem dX9_layStrings_166 : decode cX9_layStrings 166 = .ok (.getfield 35, 3) := by decide +kernel
theorem dX9_layStrings_169 : decode cX9_layStrings 169 = .ok (.iload_n 1, 1) := by decide +kernel
theorem dX9_layStrings_170 : decode cX9_layStrings 170 = .ok (.aload_n 0, 1) := by decide +kernel
theorem dX9_layStrings_171 : decode cX9_layStrings 171 = .ok (.getfield 35, 3) := by decide +kernel
theorem dX9_layStrings_174 : decode cX9_layStrings 174 = .ok (.iload_n 1, 1) := by decide +kernel
theorem dX9_layStrings_175 : decode cX9_layStrings 175 = .ok (.baload, 1) := by decide +kernel
theorem dX9_layStrings_176 : decode cX9_layStrings 176 = .ok (.ifCond .eq 19, 3) := by decide +kernel
theorem dX9_layStrings_179 : decode cX9_layStrings 179 = .ok (.iload_n 3, 1) := by decide +kernel
theorem dX9_layStrings_180 : decode cX9_layStrings 180 = .ok (.ifCond .eq 11, 3) := by decide +kernel
theorem dX9_layStrings_183 : decode cX9_layStrings 183 = .ok (.aload_n 0, 1) := by decide +kernel
theorem dX9_layStrings_184 : decode cX9_layStrings 184 = .ok (.iload_n 2, 1) := by decide +kernel
theorem dX9_layStrings_185 : decode cX9_layStrings 185 = .ok (.invokevirtual 201, 3) := by decide +kernel
theorem dX9_layStrings_188 : decode cX9_layStrings 188 = .ok (.ifCond .eq 7, 3) := by decide +kernel
theorem dX9_layStrings_191 : decode cX9_layStrings 191 = .ok (.iconst 1, 1) := by decide +kernel
theorem dX9_layStrings_192 : decode cX9_layStrings 192 = .ok (.goto 4, 3) := by decide +kernel
theorem dX9_layStrings_195 : decode cX9_layStrings 195 = .ok (.iconst 0, 1) := by decide +kernel
theorem dX9_layStrings_196 : decode cX9_layStrings 196 = .ok (.bastore, 1) := by decide +kernel
theorem dX9_layStrings_197 : decode cX9_layStrings 197 = .ok (.aload_n 0, 1) := by decide +kernel
theorem dX9_layStrings_198 : decode cX9_layStrings 198 = .ok (.getfield 39, 3) := by decide +kernel
theorem dX9_layStrings_201 : decode cX9_layStrings 201 = .ok (.iload_n 1, 1) := by decide +kernel
theorem dX9_layStrings_202 : decode cX9_layStrings 202 = .ok (.aload_n 0, 1) := by decide +kernel
theorem dX9_layStrings_203 : decode cX9_layStrings 203 = .ok (.getfield 39, 3) := by decide +kernel
theorem dX9_layStrings_206 : decode cX9_layStrings 206 = .ok (.iload_n 1, 1) := by decide +kernel
theorem dX9_layStrings_207 : decode cX9_layStrings 207 = .ok (.baload, 1) := by decide +kernel
theorem dX9_layStrings_208 : decode cX9_layStrings 208 = .ok (.ifCond .ne 20, 3) := by decide +kernel
theorem dX9_layStrings_211 : decode cX9_layStrings 211 = .ok (.iload_n 3, 1) := by decide +kernel
theorem dX9_layStrings_212 : decode cX9_layStrings 212 = .ok (.ifCond .eq 20, 3) := by decide +kernel
theorem dX9_layStrings_215 : decode cX9_layStrings 215 = .ok (.aload_n 0, 1) := by decide +kernel
theorem dX9_layStrings_216 : decode cX9_layStrings 216 = .ok (.iload_n 2, 1) := by decide +kernel
theorem dX9_layStrings_217 : decode cX9_layStrings 217 = .ok (.aload_n 0, 1) := by decide +kernel
theorem dX9_layStrings_218 : decode cX9_layStrings 218 = .ok (.getfield 119, 3) := by decide +kernel
theorem dX9_layStrings_221 : decode cX9_layStrings 221 = .ok (.invokevirtual 102, 3) := by decide +kernel
theorem dX9_layStrings_224 : decode cX9_layStrings 224 = .ok (.iconst 1, 1) := by decide +kernel
theorem dX9_layStrings_225 : decode cX9_layStrings 225 = .ok (.if_icmp .ne 7, 3) := by decide +kernel
theorem dX9_layStrings_228 : decode cX9_layStrings 228 = .ok (.iconst 1, 1) := by decide +kernel
theorem dX9_layStrings_229 : decode cX9_layStrings 229 = .ok (.goto 4, 3) := by decide +kernel
theorem dX9_layStrings_232 : decode cX9_layStrings 232 = .ok (.iconst 0, 1) := by decide +kernel
theorem dX9_layStrings_233 : decode cX9_layStrings 233 = .ok (.bastore, 1) := by decide +kernel
theorem dX9_layStrings_234 : decode cX9_layStrings 234 = .ok (.iinc 2 1, 3) := by decide +kernel
theorem dX9_layStrings_237 : decode cX9_layStrings 237 = .ok (.goto (-114), 3) := by decide +kernel
theorem dX9_layStrings_240 : decode cX9_layStrings 240 = .ok (.iinc 1 1, 3) := by decide +kernel
theorem dX9_layStrings_243 : decode cX9_layStrings 243 = .ok (.goto (-151), 3) := by decide +kernel
theorem dX9_layStrings_246 : decode cX9_layStrings 246 = .ok (.aload_n 0, 1) := by decide +kernel
theorem dX9_layStrings_247 : decode cX9_layStrings 247 = .ok (.getfield 194, 3) := by decide +kernel
theorem dX9_layStrings_250 : decode cX9_layStrings 250 = .ok (.ireturn, 1) := by decide +kernel
set_option maxRecDepth 20000 in
theorem ggX9_stringOf_X9_isBox : GoodIn wsX9_stringOf wsX9_isBox := goodIn_r _ [7, 8, 9, 10, 6, 11, 12, 13, 14, 15, 16, 77, 78, 79, 80, 81, 82, 83, 84, 85, 86, 87, 88, 89, 90, 91, 92, 93, 94, 95, 96, 97, 98, 99, 100, 101] (by decide +kernel) (by decide +kernel)
set_option maxRecDepth 20000 in
theorem gX9_stringOf_X9_isBox : GoodIn wsX9_stringOf (wsV RX9 185 RX9 yX9_isBox wsX9_isBox) := goodIn_app (goodIn_of _ (by decide +kernel)) ggX9_stringOf_X9_isBox
set_option maxRecDepth 20000 in
theorem ggX9_stringOf_X9_layStrings : GoodIn wsX9_stringOf wsX9_layStrings := goodIn_r _ [20, 21, 2, 22, 23, 24, 25, 8, 9, 10, 6, 11, 12, 13, 26, 27, 28, 29, 30, 31, 32, 33, 34, 35, 36, 37, 38, 39, 40, 41, 42, 43, 44, 45, 46, 47, 48, 14, 15, 16, 49, 50, 51, 52, 53, 54, 55, 56, 57, 58, 59, 60, 61, 62, 63, 64, 65, 66, 67, 68, 69, 70, 71, 72, 73, 74, 75, 76, 77, 78, 79, 80, 81, 82, 83, 84, 85, 86, 87, 88, 89, 90, 91, 92, 93, 94, 95, 96, 97, 98, 99, 100, 101] (by decide +kernel) (by decide +kernel)
set_option maxRecDepth 20000 in
theorem gX9_stringOf_X9_layStrings : GoodIn wsX9_stringOf (wsV RX9 176 RX9 yX9_layStrings wsX9_layStrings) := goodIn_app (goodIn_of _ (by decide +kernel)) ggX9_stringOf_X9_layStrings
theorem dX9_stringOf_0 : decode cX9_stringOf 0 = .ok (.aload_n 0, 1) := by decide +kernel
theorem dX9_stringOf_1 : decode cX9_stringOf 1 = .ok (.aload_n 0, 1) := by decide +kernel
theorem dX9_stringOf_2 : decode cX9_stringOf 2 = .ok (.iload_n 1, 1) := by decide +kernel
theorem dX9_stringOf_3 : decode cX9_stringOf 3 = .ok (.invokevirtual 185, 3) := by decide +kernel
theorem dX9_stringOf_6 : decode cX9_stringOf 6 = .ok (.ifCond .eq 7, 3) := by decide +kernel
theorem dX9_stringOf_9 : decode cX9_stringOf 9 = .ok (.iconst 0, 1) := by decide +kernel
theorem dX9_stringOf_10 : decode cX9_stringOf 10 = .ok (.goto 4, 3) := by decide +kernel
theorem dX9_stringOf_13 : decode cX9_stringOf 13 = .ok (.iconst 1, 1) := by decide +kernel
theorem dX9_stringOf_14 : decode cX9_stringOf 14 = .ok (.putfield 59, 3) := by decide +kernel
