theorem dX6_init_0 : decode cX6_init 0 = .ok (.aload_n 0, 1) := by decide +kernel
theorem dX6_init_1 : decode cX6_init 1 = .ok (.invokespecial 3, 3) := by decide +kernel
theorem dX6_init_4 : decode cX6_init 4 = .ok (.aload_n 0, 1) := by decide +kernel
theorem dX6_init_5 : decode cX6_init 5 = .ok (.aload_n 1, 1) := by decide +kernel
theorem dX6_init_6 : decode cX6_init 6 = .ok (.putfield 9, 3) := by decide +kernel
theorem dX6_init_9 : decode cX6_init 9 = .ok (.aload_n 0, 1) := by decide +kernel
theorem dX6_init_10 : decode cX6_init 10 = .ok (.aload_n 2, 1) := by decide +kernel
theorem dX6_init_11 : decode cX6_init 11 = .ok (.putfield 15, 3) := by decide +kernel
theorem dX6_init_14 : decode cX6_init 14 = .ok (.return_, 1) := by decide +kernel
set_option maxRecDepth 20000 in
theorem ggX6_choose_X0_openLines : GoodIn wsX6_choose wsX0_openLines := goodIn_r _ [8, 9, 10, 11, 12, 13, 143, 144, 145, 146, 147, 148, 149] (by decide +kernel) (by decide +kernel)
set_option maxRecDepth 20000 in
theorem gX6_choose_X0_openLines : GoodIn wsX6_choose (wsV RX6 19 RX0 yX0_openLines wsX0_openLines) := goodIn_app (goodIn_of _ (by decide +kernel)) ggX6_choose_X0_openLines
set_option maxRecDepth 20000 in
theorem ggX6_choose_J13_bitCount_95d88 : GoodIn wsX6_choose wsJ13_bitCount_95d88 := goodIn_r _ [17, 18, 19, 20] (by decide +kernel) (by decide +kernel)
set_option maxRecDepth 20000 in
theorem gX6_choose_J13_bitCount_95d88 : GoodIn wsX6_choose (va_wsS RX6 25 yJ13_bitCount_95d88 wsJ13_bitCount_95d88) := goodIn_app (goodIn_of _ (by decide +kernel)) ggX6_choose_J13_bitCount_95d88
set_option maxRecDepth 20000 in
theorem ggX6_choose_X4_bestLine : GoodIn wsX6_choose wsX4_bestLine := goodIn_r _ [25, 26, 27, 28, 29, 30, 24, 31, 32, 33, 34, 35, 36, 37, 38, 39, 40, 41, 42, 43, 15, 16, 17, 18, 19, 20, 44, 12, 45, 46, 47, 48, 49, 50, 51, 52, 53, 54, 55, 56, 57, 58, 59, 60, 61, 62, 63, 7, 64, 65, 66, 67, 68, 69, 70, 71, 72, 73, 74, 75, 76, 77, 78, 79, 80, 81, 11, 13, 82, 83, 84, 85, 86, 87, 88, 89, 90, 91, 92, 93, 94, 95, 96, 97, 150, 151, 152, 153, 154, 155, 156, 157, 143, 144, 145, 146, 147, 148, 149] (by decide +kernel) (by decide +kernel)
set_option maxRecDepth 20000 in
theorem gX6_choose_X4_bestLine : GoodIn wsX6_choose (wsV RX6 31 RX4 yX4_bestLine wsX4_bestLine) := goodIn_app (goodIn_of _ (by decide +kernel)) ggX6_choose_X4_bestLine
set_option maxRecDepth 20000 in
theorem ggX6_choose_X0_takingLines : GoodIn wsX6_choose wsX0_takingLines := goodIn_r _ [101, 102, 103, 104, 7, 105, 106, 107, 108, 109, 110, 71, 10, 72, 73, 52, 74, 111, 15, 16, 17, 18, 19, 20, 143, 144, 145, 146, 147, 148, 149] (by decide +kernel) (by decide +kernel)
set_option maxRecDepth 20000 in
theorem gX6_choose_X0_takingLines : GoodIn wsX6_choose (wsV RX6 36 RX0 yX0_takingLines wsX0_takingLines) := goodIn_app (goodIn_of _ (by decide +kernel)) ggX6_choose_X0_takingLines
set_option maxRecDepth 20000 in
theorem ggX6_choose_X0_safeLines : GoodIn wsX6_choose wsX0_safeLines := goodIn_r _ [115, 10, 102, 103, 104, 7, 105, 106, 107, 108, 109, 110, 71, 72, 73, 52, 74, 111, 15, 16, 17, 18, 19, 20, 116, 5, 6, 8, 9, 11, 12, 13, 143, 144, 145, 146, 147, 148, 149] (by decide +kernel) (by decide +kernel)
set_option maxRecDepth 20000 in
theorem gX6_choose_X0_safeLines : GoodIn wsX6_choose (wsV RX6 39 RX0 yX0_safeLines wsX0_safeLines) := goodIn_app (goodIn_of _ (by decide +kernel)) ggX6_choose_X0_safeLines
set_option maxRecDepth 20000 in
theorem ggX6_choose_X6_keepingLine : GoodIn wsX6_choose wsX6_keepingLine := goodIn_r _ [121, 1, 122, 123, 124, 125, 126, 7, 127, 106, 107, 108, 109, 110, 71, 10, 72, 73, 52, 74, 128, 129, 130, 131, 111, 15, 16, 17, 18, 19, 20, 132, 79, 12, 80, 81, 11, 13, 133, 134, 135, 136, 141, 142, 143, 144, 145, 146, 147, 148, 149] (by decide +kernel) (by decide +kernel)
set_option maxRecDepth 20000 in
theorem gX6_choose_X6_keepingLine : GoodIn wsX6_choose (wsV RX6 44 RX6 yX6_keepingLine wsX6_keepingLine) := goodIn_app (goodIn_of _ (by decide +kernel)) ggX6_choose_X6_keepingLine
set_option maxRecDepth 20000 in
theorem ggX6_choose_X8_lowestOf : GoodIn wsX6_choose wsX8_lowestOf := goodIn_r _ [48, 49, 15, 16, 17, 18, 19, 20] (by decide +kernel) (by decide +kernel)
set_option maxRecDepth 20000 in
theorem gX6_choose_X8_lowestOf_n48 : GoodIn wsX6_choose (wsX8_lowestOf) := ggX6_choose_X8_lowestOf
set_option maxRecDepth 20000 in
theorem ggX6_choose_X6_cheapestLine : GoodIn wsX6_choose wsX6_cheapestLine := goodIn_r _ [140, 1, 123, 79, 12, 80, 81, 11, 13, 128, 129, 130, 7, 131, 106, 107, 108, 109, 110, 71, 10, 72, 73, 52, 74, 111, 15, 16, 17, 18, 19, 20, 132, 125, 126, 127, 141, 142, 143, 144, 145, 146, 147, 148, 149] (by decide +kernel) (by decide +kernel)
set_option maxRecDepth 20000 in
theorem gX6_choose_X6_cheapestLine : GoodIn wsX6_choose (wsV RX6 51 RX6 yX6_cheapestLine wsX6_cheapestLine) := goodIn_app (goodIn_of _ (by decide +kernel)) ggX6_choose_X6_cheapestLine
theorem dX6_choose_0 : decode cX6_choose 0 = .ok (.aload_n 0, 1) := by decide +kernel
theorem dX6_choose_1 : decode cX6_choose 1 = .ok (.getfield 9, 3) := by decide +kernel
theorem dX6_choose_4 : decode cX6_choose 4 = .ok (.lload_n 2, 1) := by decide +kernel
theorem dX6_choose_5 : decode cX6_choose 5 = .ok (.invokevirtual 19, 3) := by decide +kernel
theorem dX6_choose_8 : decode cX6_choose 8 = .ok (.lstore 4, 2) := by decide +kernel
theorem dX6_choose_10 : decode cX6_choose 10 = .ok (.iload_n 1, 1) := by decide +kernel
theorem dX6_choose_11 : decode cX6_choose 11 = .ok (.iconst 2, 1) := by decide +kernel
theorem dX6_choose_12 : decode cX6_choose 12 = .ok (.if_icmp .ne 23, 3) := by decide +kernel
theorem dX6_choose_15 : decode cX6_choose 15 = .ok (.lload 4, 2) := by decide +kernel
theorem dX6_choose_17 : decode cX6_choose 17 = .ok (.invokestatic 25, 3) := by decide +kernel
theorem dX6_choose_20 : decode cX6_choose 20 = .ok (.bipush 12, 2) := by decide +kernel
theorem dX6_choose_22 : decode cX6_choose 22 = .ok (.if_icmp .gt 13, 3) := by decide +kernel
theorem dX6_choose_25 : decode cX6_choose 25 = .ok (.aload_n 0, 1) := by decide +kernel
theorem dX6_choose_26 : decode cX6_choose 26 = .ok (.getfield 15, 3) := by decide +kernel
theorem dX6_choose_29 : decode cX6_choose 29 = .ok (.lload 4, 2) := by decide +kernel
theorem dX6_choose_31 : decode cX6_choose 31 = .ok (.invokevirtual 31, 3) := by decide +kernel
theorem dX6_choose_34 : decode cX6_choose 34 = .ok (.ireturn, 1) := by decide +kernel
theorem dX6_choose_35 : decode cX6_choose 35 = .ok (.aload_n 0, 1) := by decide +kernel
theorem dX6_choose_36 : decode cX6_choose 36 = .ok (.getfield 9, 3) := by decide +kernel
theorem dX6_choose_39 : decode cX6_choose 39 = .ok (.lload_n 2, 1) := by decide +kernel
theorem dX6_choose_40 : decode cX6_choose 40 = .ok (.invokevirtual 36, 3) := by decide +kernel
theorem dX6_choose_43 : decode cX6_choose 43 = .ok (.lstore 6, 2) := by decide +kernel
theorem dX6_choose_45 : decode cX6_choose 45 = .ok (.aload_n 0, 1) := by decide +kernel
theorem dX6_choose_46 : decode cX6_choose 46 = .ok (.getfield 9, 3) := by decide +kernel
theorem dX6_choose_49 : decode cX6_choose 49 = .ok (.lload_n 2, 1) := by decide +kernel
theorem dX6_choose_50 : decode cX6_choose 50 = .ok (.invokevirtual 39, 3) := by decide +kernel
theorem dX6_choose_53 : decode cX6_choose 53 = .ok (.lstore 8, 2) := by decide +kernel
theorem dX6_choose_55 : decode cX6_choose 55 = .ok (.iload_n 1, 1) := by decide +kernel
theorem dX6_choose_56 : decode cX6_choose 56 = .ok (.ifCond .eq 42, 3) := by decide +kernel
theorem dX6_choose_59 : decode cX6_choose 59 = .ok (.lload 6, 2) := by decide +kernel
theorem dX6_choose_61 : decode cX6_choose 61 = .ok (.lconst 0, 1) := by decide +kernel
theorem dX6_choose_62 : decode cX6_choose 62 = .ok (.lcmp, 1) := by decide +kernel
theorem dX6_choose_63 : decode cX6_choose 63 = .ok (.ifCond .eq 35, 3) := by decide +kernel
theorem dX6_choose_66 : decode cX6_choose 66 = .ok (.lload 8, 2) := by decide +kernel
theorem dX6_choose_68 : decode cX6_choose 68 = .ok (.lconst 0, 1) := by decide +kernel
theorem dX6_choose_69 : decode cX6_choose 69 = .ok (.lcmp, 1) := by decide +kernel
theorem dX6_choose_70 : decode cX6_choose 70 = .ok (.ifCond .ne 28, 3) := by decide +kernel
theorem dX6_choose_73 : decode cX6_choose 73 = .ok (.aload_n 0, 1) := by decide +kernel
theorem dX6_choose_74 : decode cX6_choose 74 = .ok (.lload_n 2, 1) := by decide +kernel
theorem dX6_choose_75 : decode cX6_choose 75 = .ok (.lload 4, 2) := by decide +kernel
theorem dX6_choose_77 : decode cX6_choose 77 = .ok (.lload 6, 2) := by decide +kernel
theorem dX6_choose_79 : decode cX6_choose 79 = .ok (.ldc2_w 42, 3) := by decide +kernel
theorem dX6_choose_82 : decode cX6_choose 82 = .ok (.lxor, 1) := by decide +kernel
theorem dX6_choose_83 : decode cX6_choose 83 = .ok (.land, 1) := by decide +kernel
theorem dX6_choose_84 : decode cX6_choose 84 = .ok (.invokevirtual 44, 3) := by decide +kernel
theorem dX6_choose_87 : decode cX6_choose 87 = .ok (.istore 10, 2) := by decide +kernel
theorem dX6_choose_89 : decode cX6_choose 89 = .ok (.iload 10, 2) := by decide +kernel
theorem dX6_choose_91 : decode cX6_choose 91 = .ok (.iconst (-1), 1) := by decide +kernel
theorem dX6_choose_92 : decode cX6_choose 92 = .ok (.if_icmp .eq 6, 3) := by decide +kernel
theorem dX6_choose_95 : decode cX6_choose 95 = .ok (.iload 10, 2) := by decide +kernel
theorem dX6_choose_97 : decode cX6_choose 97 = .ok (.ireturn, 1) := by decide +kernel
theorem dX6_choose_98 : decode cX6_choose 98 = .ok (.lload 6, 2) := by decide +kernel
theorem dX6_choose_100 : decode cX6_choose 100 = .ok (.lconst 0, 1) := by decide +kernel
theorem dX6_choose_101 : decode cX6_choose 101 = .ok (.lcmp, 1) := by decide +kernel
theorem dX6_choose_102 : decode cX6_choose 102 = .ok (.ifCond .eq 9, 3) := by decide +kernel
theorem dX6_choose_105 : decode cX6_choose 105 = .ok (.lload 6, 2) := by decide +kernel
theorem dX6_choose_107 : decode cX6_choose 107 = .ok (.invokestatic 48, 3) := by decide +kernel
theorem dX6_choose_110 : decode cX6_choose 110 = .ok (.ireturn, 1) := by decide +kernel
theorem dX6_choose_111 : decode cX6_choose 111 = .ok (.lload 8, 2) := by decide +kernel
theorem dX6_choose_113 : decode cX6_choose 113 = .ok (.lconst 0, 1) := by decide +kernel
theorem dX6_choose_114 : decode cX6_choose 114 = .ok (.lcmp, 1) := by decide +kernel
theorem dX6_choose_115 : decode cX6_choose 115 = .ok (.ifCond .eq 11, 3) := by decide +kernel
theorem dX6_choose_118 : decode cX6_choose 118 = .ok (.lload 8, 2) := by decide +kernel
theorem dX6_choose_120 : decode cX6_choose 120 = .ok (.invokestatic 48, 3) := by decide +kernel
theorem dX6_choose_123 : decode cX6_choose 123 = .ok (.goto 8, 3) := by decide +kernel
theorem dX6_choose_126 : decode cX6_choose 126 = .ok (.aload_n 0, 1) := by decide +kernel
theorem dX6_choose_127 : decode cX6_choose 127 = .ok (.lload_n 2, 1) := by decide +kernel
theorem dX6_choose_128 : decode cX6_choose 128 = .ok (.invokevirtual 51, 3) := by decide +kernel
theorem dX6_choose_131 : decode cX6_choose 131 = .ok (.ireturn, 1) := by decide +kernel
set_option maxRecDepth 20000 in
theorem ggX6_cheapestLine_X8_contains : GoodIn wsX6_cheapestLine wsX8_contains := goodIn_r _ [5, 6, 7, 4, 8] (by decide +kernel) (by decide +kernel)
set_option maxRecDepth 20000 in
theorem gX6_cheapestLine_X8_contains_n58 : GoodIn wsX6_cheapestLine (wsX8_contains) := ggX6_cheapestLine_X8_contains
set_option maxRecDepth 20000 in
theorem ggX6_cheapestLine_X8_bit : GoodIn wsX6_cheapestLine wsX8_bit := goodIn_r _ [8] (by decide +kernel) (by decide +kernel)
set_option maxRecDepth 20000 in
theorem gX6_cheapestLine_X8_bit_n62 : GoodIn wsX6_cheapestLine (wsX8_bit) := ggX6_cheapestLine_X8_bit
set_option maxRecDepth 20000 in
theorem ggX6_cheapestLine_X0_runOf : GoodIn wsX6_cheapestLine wsX0_runOf := goodIn_r _ [13, 14, 15, 16, 17, 12, 18, 19, 20, 21, 22, 23, 24, 25, 26, 27, 28, 29, 30, 31, 32, 33, 34, 35, 38, 39, 40, 41, 42, 43, 44] (by decide +kernel) (by decide +kernel)
set_option maxRecDepth 20000 in
theorem gX6_cheapestLine_X0_runOf : GoodIn wsX6_cheapestLine (wsV RX6 66 RX0 yX0_runOf wsX0_runOf) := goodIn_app (goodIn_of _ (by decide +kernel)) ggX6_cheapestLine_X0_runOf
theorem dX6_cheapestLine_0 : decode cX6_cheapestLine 0 = .ok (.iconst (-1), 1) := by decide +kernel
theorem dX6_cheapestLine_1 : decode cX6_cheapestLine 1 = .ok (.istore_n 3, 1) := by decide +kernel
theorem dX6_cheapestLine_2 : decode cX6_cheapestLine 2 = .ok (.sipush 1000, 3) := by decide +kernel
theorem dX6_cheapestLine_5 : decode cX6_cheapestLine 5 = .ok (.istore 4, 2) := by decide +kernel
theorem dX6_cheapestLine_7 : decode cX6_cheapestLine 7 = .ok (.iconst 0, 1) := by decide +kernel
theorem dX6_cheapestLine_8 : decode cX6_cheapestLine 8 = .ok (.istore 5, 2) := by decide +kernel
theorem dX6_cheapestLine_10 : decode cX6_cheapestLine 10 = .ok (.iload 5, 2) := by decide +kernel
theorem dX6_cheapestLine_12 : decode cX6_cheapestLine 12 = .ok (.aload_n 0, 1) := by decide +kernel
theorem dX6_cheapestLine_13 : decode cX6_cheapestLine 13 = .ok (.getfield 9, 3) := by decide +kernel
theorem dX6_cheapestLine_16 : decode cX6_cheapestLine 16 = .ok (.getfield 54, 3) := by decide +kernel
theorem dX6_cheapestLine_19 : decode cX6_cheapestLine 19 = .ok (.if_icmp .ge 48, 3) := by decide +kernel
theorem dX6_cheapestLine_22 : decode cX6_cheapestLine 22 = .ok (.lload_n 1, 1) := by decide +kernel
theorem dX6_cheapestLine_23 : decode cX6_cheapestLine 23 = .ok (.iload 5, 2) := by decide +kernel
theorem dX6_cheapestLine_25 : decode cX6_cheapestLine 25 = .ok (.invokestatic 58, 3) := by decide +kernel
theorem dX6_cheapestLine_28 : decode cX6_cheapestLine 28 = .ok (.ifCond .ne 33, 3) := by decide +kernel
theorem dX6_cheapestLine_31 : decode cX6_cheapestLine 31 = .ok (.aload_n 0, 1) := by decide +kernel
theorem dX6_cheapestLine_32 : decode cX6_cheapestLine 32 = .ok (.getfield 9, 3) := by decide +kernel
theorem dX6_cheapestLine_35 : decode cX6_cheapestLine 35 = .ok (.lload_n 1, 1) := by decide +kernel
theorem dX6_cheapestLine_36 : decode cX6_cheapestLine 36 = .ok (.iload 5, 2) := by decide +kernel
theorem dX6_cheapestLine_38 : decode cX6_cheapestLine 38 = .ok (.invokestatic 62, 3) := by decide +kernel
theorem dX6_cheapestLine_41 : decode cX6_cheapestLine 41 = .ok (.lor, 1) := by decide +kernel
theorem dX6_cheapestLine_42 : decode cX6_cheapestLine 42 = .ok (.invokevirtual 66, 3) := by decide +kernel
theorem dX6_cheapestLine_45 : decode cX6_cheapestLine 45 = .ok (.istore 6, 2) := by decide +kernel
theorem dX6_cheapestLine_47 : decode cX6_cheapestLine 47 = .ok (.iload 6, 2) := by decide +kernel
theorem dX6_cheapestLine_49 : decode cX6_cheapestLine 49 = .ok (.iload 4, 2) := by decide +kernel
theorem dX6_cheapestLine_51 : decode cX6_cheapestLine 51 = .ok (.if_icmp .ge 10, 3) := by decide +kernel
theorem dX6_cheapestLine_54 : decode cX6_cheapestLine 54 = .ok (.iload 6, 2) := by decide +kernel
theorem dX6_cheapestLine_56 : decode cX6_cheapestLine 56 = .ok (.istore 4, 2) := by decide +kernel
theorem dX6_cheapestLine_58 : decode cX6_cheapestLine 58 = .ok (.iload 5, 2) := by decide +kernel
theorem dX6_cheapestLine_60 : decode cX6_cheapestLine 60 = .ok (.istore_n 3, 1) := by decide +kernel
theorem dX6_cheapestLine_61 : decode cX6_cheapestLine 61 = .ok (.iinc 5 1, 3) := by decide +kernel
theorem dX6_cheapestLine_64 : decode cX6_cheapestLine 64 = .ok (.goto (-54), 3) := by decide +kernel
theorem dX6_cheapestLine_67 : decode cX6_cheapestLine 67 = .ok (.iload_n 3, 1) := by decide +kernel
theorem dX6_cheapestLine_68 : decode cX6_cheapestLine 68 = .ok (.ireturn, 1) := by decide +kernel
set_option maxRecDepth 20000 in
theorem ggX6_keepingLine_X0_completeBoxes : GoodIn wsX6_keepingLine wsX0_completeBoxes := goodIn_r _ [8, 9, 10, 11, 12, 7, 13, 14, 15, 16, 17, 18, 19, 44, 45, 46, 47, 48, 49, 50] (by decide +kernel) (by decide +kernel)
set_option maxRecDepth 20000 in
theorem gX6_keepingLine_X0_completeBoxes : GoodIn wsX6_keepingLine (wsV RX6 72 RX0 yX0_completeBoxes wsX0_completeBoxes) := goodIn_app (goodIn_of _ (by decide +kernel)) ggX6_keepingLine_X0_completeBoxes
set_option maxRecDepth 20000 in
theorem ggX6_keepingLine_X0_runOf : GoodIn wsX6_keepingLine wsX0_runOf := goodIn_r _ [23, 9, 10, 11, 12, 7, 13, 14, 15, 16, 17, 18, 19, 24, 25, 26, 27, 28, 29, 30, 31, 5, 6, 8, 44, 45, 46, 47, 48, 49, 50] (by decide +kernel) (by decide +kernel)
set_option maxRecDepth 20000 in
theorem gX6_keepingLine_X0_runOf : GoodIn wsX6_keepingLine (wsV RX6 66 RX0 yX0_runOf wsX0_runOf) := goodIn_app (goodIn_of _ (by decide +kernel)) ggX6_keepingLine_X0_runOf
set_option maxRecDepth 20000 in
theorem ggX6_keepingLine_X8_contains : GoodIn wsX6_keepingLine wsX8_contains := goodIn_r _ [34, 35, 36, 33, 37] (by decide +kernel) (by decide +kernel)
set_option maxRecDepth 20000 in
theorem gX6_keepingLine_X8_contains_n58 : GoodIn wsX6_keepingLine (wsX8_contains) := ggX6_keepingLine_X8_contains
set_option maxRecDepth 20000 in
theorem ggX6_keepingLine_X8_bit : GoodIn wsX6_keepingLine wsX8_bit := goodIn_r _ [37] (by decide +kernel) (by decide +kernel)
set_option maxRecDepth 20000 in
theorem gX6_keepingLine_X8_bit_n62 : GoodIn wsX6_keepingLine (wsX8_bit) := ggX6_keepingLine_X8_bit
set_option maxRecDepth 20000 in
theorem ggX6_keepingLine_X0_hasDoubleTaking : GoodIn wsX6_keepingLine wsX0_hasDoubleTaking := goodIn_r _ [41, 9, 10, 11, 12, 7, 13, 14, 15, 16, 17, 18, 19, 24, 25, 26, 27, 28, 29, 30, 44, 45, 46, 47, 48, 49, 50] (by decide +kernel) (by decide +kernel)
set_option maxRecDepth 20000 in
theorem gX6_keepingLine_X0_hasDoubleTaking : GoodIn wsX6_keepingLine (wsV RX6 75 RX0 yX0_hasDoubleTaking wsX0_hasDoubleTaking) := goodIn_app (goodIn_of _ (by decide +kernel)) ggX6_keepingLine_X0_hasDoubleTaking
theorem dX6_keepingLine_0 : decode cX6_keepingLine 0 = .ok (.aload_n 0, 1) := by decide +kernel
theorem dX6_keepingLine_1 : decode cX6_keepingLine 1 = .ok (.getfield 9, 3) := by decide +kernel
theorem dX6_keepingLine_4 : decode cX6_keepingLine 4 = .ok (.getfield 69, 3) := by decide +kernel
theorem dX6_keepingLine_7 : decode cX6_keepingLine 7 = .ok (.aload_n 0, 1) := by decide +kernel
theorem dX6_keepingLine_8 : decode cX6_keepingLine 8 = .ok (.getfield 9, 3) := by decide +kernel
theorem dX6_keepingLine_11 : decode cX6_keepingLine 11 = .ok (.lload_n 1, 1) := by decide +kernel
theorem dX6_keepingLine_12 : decode cX6_keepingLine 12 = .ok (.invokevirtual 72, 3) := by decide +kernel
theorem dX6_keepingLine_15 : decode cX6_keepingLine 15 = .ok (.isub, 1) := by decide +kernel
theorem dX6_keepingLine_16 : decode cX6_keepingLine 16 = .ok (.iconst 5, 1) := by decide +kernel
theorem dX6_keepingLine_17 : decode cX6_keepingLine 17 = .ok (.if_icmp .lt 15, 3) := by decide +kernel
theorem dX6_keepingLine_20 : decode cX6_keepingLine 20 = .ok (.aload_n 0, 1) := by decide +kernel
theorem dX6_keepingLine_21 : decode cX6_keepingLine 21 = .ok (.getfield 9, 3) := by decide +kernel
theorem dX6_keepingLine_24 : decode cX6_keepingLine 24 = .ok (.lload_n 1, 1) := by decide +kernel
theorem dX6_keepingLine_25 : decode cX6_keepingLine 25 = .ok (.invokevirtual 66, 3) := by decide +kernel
theorem dX6_keepingLine_28 : decode cX6_keepingLine 28 = .ok (.iconst 2, 1) := by decide +kernel
theorem dX6_keepingLine_29 : decode cX6_keepingLine 29 = .ok (.if_icmp .eq 5, 3) := by decide +kernel
theorem dX6_keepingLine_32 : decode cX6_keepingLine 32 = .ok (.iconst (-1), 1) := by decide +kernel
theorem dX6_keepingLine_33 : decode cX6_keepingLine 33 = .ok (.ireturn, 1) := by decide +kernel
theorem dX6_keepingLine_34 : decode cX6_keepingLine 34 = .ok (.iconst 0, 1) := by decide +kernel
theorem dX6_keepingLine_35 : decode cX6_keepingLine 35 = .ok (.istore 5, 2) := by decide +kernel
theorem dX6_keepingLine_37 : decode cX6_keepingLine 37 = .ok (.iload 5, 2) := by decide +kernel
theorem dX6_keepingLine_39 : decode cX6_keepingLine 39 = .ok (.aload_n 0, 1) := by decide +kernel
theorem dX6_keepingLine_40 : decode cX6_keepingLine 40 = .ok (.getfield 9, 3) := by decide +kernel
theorem dX6_keepingLine_43 : decode cX6_keepingLine 43 = .ok (.getfield 54, 3) := by decide +kernel
theorem dX6_keepingLine_46 : decode cX6_keepingLine 46 = .ok (.if_icmp .ge 38, 3) := by decide +kernel
theorem dX6_keepingLine_49 : decode cX6_keepingLine 49 = .ok (.lload_n 3, 1) := by decide +kernel
theorem dX6_keepingLine_50 : decode cX6_keepingLine 50 = .ok (.iload 5, 2) := by decide +kernel
theorem dX6_keepingLine_52 : decode cX6_keepingLine 52 = .ok (.invokestatic 58, 3) := by decide +kernel
theorem dX6_keepingLine_55 : decode cX6_keepingLine 55 = .ok (.ifCond .eq 23, 3) := by decide +kernel
theorem dX6_keepingLine_58 : decode cX6_keepingLine 58 = .ok (.aload_n 0, 1) := by decide +kernel
theorem dX6_keepingLine_59 : decode cX6_keepingLine 59 = .ok (.getfield 9, 3) := by decide +kernel
theorem dX6_keepingLine_62 : decode cX6_keepingLine 62 = .ok (.lload_n 1, 1) := by decide +kernel
theorem dX6_keepingLine_63 : decode cX6_keepingLine 63 = .ok (.iload 5, 2) := by decide +kernel
theorem dX6_keepingLine_65 : decode cX6_keepingLine 65 = .ok (.invokestatic 62, 3) := by decide +kernel
theorem dX6_keepingLine_68 : decode cX6_keepingLine 68 = .ok (.lor, 1) := by decide +kernel
theorem dX6_keepingLine_69 : decode cX6_keepingLine 69 = .ok (.invokevirtual 75, 3) := by decide +kernel
theorem dX6_keepingLine_72 : decode cX6_keepingLine 72 = .ok (.ifCond .eq 6, 3) := by decide +kernel
theorem dX6_keepingLine_75 : decode cX6_keepingLine 75 = .ok (.iload 5, 2) := by decide +kernel
theorem dX6_keepingLine_77 : decode cX6_keepingLine 77 = .ok (.ireturn, 1) := by decide +kernel
theorem dX6_keepingLine_78 : decode cX6_keepingLine 78 = .ok (.iinc 5 1, 3) := by decide +kernel
theorem dX6_keepingLine_81 : decode cX6_keepingLine 81 = .ok (.goto (-44), 3) := by decide +kernel
theorem dX6_keepingLine_84 : decode cX6_keepingLine 84 = .ok (.iconst (-1), 1) := by decide +kernel
theorem dX6_keepingLine_85 : decode cX6_keepingLine 85 = .ok (.ireturn, 1) := by decide +kernel
theorem dX7_init_0 : decode cX7_init 0 = .ok (.aload_n 0, 1) := by decide +kernel
theorem dX7_init_1 : decode cX7_init 1 = .ok (.invokespecial 3, 3) := by decide +kernel
theorem dX7_init_4 : decode cX7_init 4 = .ok (.aload_n 0, 1) := by decide +kernel
theorem dX7_init_5 : decode cX7_init 5 = .ok (.sipush 320, 3) := by decide +kernel
theorem dX7_init_8 : decode cX7_init 8 = .ok (.newarray .int, 2) := by decide +kernel
theorem dX7_init_10 : decode cX7_init 10 = .ok (.putfield 9, 3) := by decide +kernel
theorem dX7_init_13 : decode cX7_init 13 = .ok (.aload_n 0, 1) := by decide +kernel
theorem dX7_init_14 : decode cX7_init 14 = .ok (.bipush 8, 2) := by decide +kernel
theorem dX7_init_16 : decode cX7_init 16 = .ok (.newarray .long, 2) := by decide +kernel
theorem dX7_init_18 : decode cX7_init 18 = .ok (.putfield 15, 3) := by decide +kernel
theorem dX7_init_21 : decode cX7_init 21 = .ok (.aload_n 0, 1) := by decide +kernel
theorem dX7_init_22 : decode cX7_init 22 = .ok (.bipush 40, 2) := by decide +kernel
theorem dX7_init_24 : decode cX7_init 24 = .ok (.newarray .long, 2) := by decide +kernel
theorem dX7_init_26 : decode cX7_init 26 = .ok (.putfield 19, 3) := by decide +kernel
theorem dX7_init_29 : decode cX7_init 29 = .ok (.aload_n 0, 1) := by decide +kernel
theorem dX7_init_30 : decode cX7_init 30 = .ok (.aload_n 1, 1) := by decide +kernel
theorem dX7_init_31 : decode cX7_init 31 = .ok (.putfield 22, 3) := by decide +kernel
theorem dX7_init_34 : decode cX7_init 34 = .ok (.return_, 1) := by decide +kernel
set_option maxRecDepth 20000 in
theorem ggX7_setUp_X7_setImage : GoodIn wsX7_setUp wsX7_setImage := goodIn_r _ [9, 1, 2, 3, 10, 11, 12, 13, 14, 15, 16, 17, 18, 19, 20, 21, 22, 23, 24, 25, 26, 27, 28, 29, 30, 31, 32, 33] (by decide +kernel) (by decide +kernel)
set_option maxRecDepth 20000 in
theorem gX7_setUp_X7_setImage : GoodIn wsX7_setUp (wsV RX7 38 RX7 yX7_setImage wsX7_setImage) := goodIn_app (goodIn_of _ (by decide +kernel)) ggX7_setUp_X7_setImage
theorem dX7_setUp_0 : decode cX7_setUp 0 = .ok (.aload_n 0, 1) := by decide +kernel
theorem dX7_setUp_1 : decode cX7_setUp 1 = .ok (.aload_n 0, 1) := by decide +kernel
theorem dX7_setUp_2 : decode cX7_setUp 2 = .ok (.getfield 22, 3) := by decide +kernel
theorem dX7_setUp_5 : decode cX7_setUp 5 = .ok (.getfield 26, 3) := by decide +kernel
theorem dX7_setUp_8 : decode cX7_setUp 8 = .ok (.aload_n 0, 1) := by decide +kernel
theorem dX7_setUp_9 : decode cX7_setUp 9 = .ok (.getfield 22, 3) := by decide +kernel
theorem dX7_setUp_12 : decode cX7_setUp 12 = .ok (.getfield 32, 3) := by decide +kernel
theorem dX7_setUp_15 : decode cX7_setUp 15 = .ok (.if_icmp .ne 8, 3) := by decide +kernel
theorem dX7_setUp_18 : decode cX7_setUp 18 = .ok (.bipush 8, 2) := by decide +kernel
theorem dX7_setUp_20 : decode cX7_setUp 20 = .ok (.goto 4, 3) := by decide +kernel
theorem dX7_setUp_23 : decode cX7_setUp 23 = .ok (.iconst 4, 1) := by decide +kernel
theorem dX7_setUp_24 : decode cX7_setUp 24 = .ok (.putfield 35, 3) := by decide +kernel
theorem dX7_setUp_27 : decode cX7_setUp 27 = .ok (.iconst 0, 1) := by decide +kernel
theorem dX7_setUp_28 : decode cX7_setUp 28 = .ok (.istore_n 1, 1) := by decide +kernel
theorem dX7_setUp_29 : decode cX7_setUp 29 = .ok (.iload_n 1, 1) := by decide +kernel
theorem dX7_setUp_30 : decode cX7_setUp 30 = .ok (.aload_n 0, 1) := by decide +kernel
theorem dX7_setUp_31 : decode cX7_setUp 31 = .ok (.getfield 35, 3) := by decide +kernel
theorem dX7_setUp_34 : decode cX7_setUp 34 = .ok (.if_icmp .ge 63, 3) := by decide +kernel
theorem dX7_setUp_37 : decode cX7_setUp 37 = .ok (.iconst 0, 1) := by decide +kernel
theorem dX7_setUp_38 : decode cX7_setUp 38 = .ok (.istore_n 2, 1) := by decide +kernel
theorem dX7_setUp_39 : decode cX7_setUp 39 = .ok (.iload_n 2, 1) := by decide +kernel
theorem dX7_setUp_40 : decode cX7_setUp 40 = .ok (.aload_n 0, 1) := by decide +kernel
theorem dX7_setUp_41 : decode cX7_setUp 41 = .ok (.getfield 22, 3) := by decide +kernel
theorem dX7_setUp_44 : decode cX7_setUp 44 = .ok (.getfield 32, 3) := by decide +kernel
theorem dX7_setUp_47 : decode cX7_setUp 47 = .ok (.if_icmp .gt 44, 3) := by decide +kernel
theorem dX7_setUp_50 : decode cX7_setUp 50 = .ok (.iconst 0, 1) := by decide +kernel
theorem dX7_setUp_51 : decode cX7_setUp 51 = .ok (.istore_n 3, 1) := by decide +kernel
theorem dX7_setUp_52 : decode cX7_setUp 52 = .ok (.iload_n 3, 1) := by decide +kernel
theorem dX7_setUp_53 : decode cX7_setUp 53 = .ok (.aload_n 0, 1) := by decide +kernel
theorem dX7_setUp_54 : decode cX7_setUp 54 = .ok (.getfield 22, 3) := by decide +kernel
theorem dX7_setUp_57 : decode cX7_setUp 57 = .ok (.getfield 26, 3) := by decide +kernel
theorem dX7_setUp_60 : decode cX7_setUp 60 = .ok (.if_icmp .gt 25, 3) := by decide +kernel
theorem dX7_setUp_63 : decode cX7_setUp 63 = .ok (.aload_n 0, 1) := by decide +kernel
theorem dX7_setUp_64 : decode cX7_setUp 64 = .ok (.iload_n 1, 1) := by decide +kernel
theorem dX7_setUp_65 : decode cX7_setUp 65 = .ok (.iconst 0, 1) := by decide +kernel
theorem dX7_setUp_66 : decode cX7_setUp 66 = .ok (.iload_n 3, 1) := by decide +kernel
theorem dX7_setUp_67 : decode cX7_setUp 67 = .ok (.iload_n 2, 1) := by decide +kernel
theorem dX7_setUp_68 : decode cX7_setUp 68 = .ok (.invokevirtual 38, 3) := by decide +kernel
theorem dX7_setUp_71 : decode cX7_setUp 71 = .ok (.aload_n 0, 1) := by decide +kernel
theorem dX7_setUp_72 : decode cX7_setUp 72 = .ok (.iload_n 1, 1) := by decide +kernel
theorem dX7_setUp_73 : decode cX7_setUp 73 = .ok (.iconst 1, 1) := by decide +kernel
theorem dX7_setUp_74 : decode cX7_setUp 74 = .ok (.iload_n 3, 1) := by decide +kernel
theorem dX7_setUp_75 : decode cX7_setUp 75 = .ok (.iload_n 2, 1) := by decide +kernel
theorem dX7_setUp_76 : decode cX7_setUp 76 = .ok (.invokevirtual 38, 3) := by decide +kernel
theorem dX7_setUp_79 : decode cX7_setUp 79 = .ok (.iinc 3 1, 3) := by decide +kernel
theorem dX7_setUp_82 : decode cX7_setUp 82 = .ok (.goto (-30), 3) := by decide +kernel
theorem dX7_setUp_85 : decode cX7_setUp 85 = .ok (.iinc 2 1, 3) := by decide +kernel
theorem dX7_setUp_88 : decode cX7_setUp 88 = .ok (.goto (-49), 3) := by decide +kernel
theorem dX7_setUp_91 : decode cX7_setUp 91 = .ok (.iinc 1 1, 3) := by decide +kernel
theorem dX7_setUp_94 : decode cX7_setUp 94 = .ok (.goto (-65), 3) := by decide +kernel
theorem dX7_setUp_97 : decode cX7_setUp 97 = .ok (.return_, 1) := by decide +kernel
set_option maxRecDepth 20000 in
theorem ggX7_setImage_X0_numberOf : GoodIn wsX7_setImage wsX0_numberOf := goodIn_r _ [9, 10, 11, 21, 22, 23, 24, 25, 26, 27] (by decide +kernel) (by decide +kernel)
set_option maxRecDepth 20000 in
theorem gX7_setImage_X0_numberOf : GoodIn wsX7_setImage (wsV RX7 42 RX0 yX0_numberOf wsX0_numberOf) := goodIn_app (goodIn_of _ (by decide +kernel)) ggX7_setImage_X0_numberOf
set_option maxRecDepth 20000 in
theorem ggX7_setImage_X3_put : GoodIn wsX7_setImage wsX3_put := goodIn_r _ [15] (by decide +kernel) (by decide +kernel)
set_option maxRecDepth 20000 in
theorem gX7_setImage_X3_put : GoodIn wsX7_setImage (va_wsS RX7 46 yX3_put wsX3_put) := goodIn_app (goodIn_of _ (by decide +kernel)) ggX7_setImage_X3_put
theorem dX7_setImage_0 : decode cX7_setImage 0 = .ok (.aload_n 0, 1) := by decide +kernel
theorem dX7_setImage_1 : decode cX7_setImage 1 = .ok (.getfield 22, 3) := by decide +kernel
theorem dX7_setImage_4 : decode cX7_setImage 4 = .ok (.iload_n 2, 1) := by decide +kernel
theorem dX7_setImage_5 : decode cX7_setImage 5 = .ok (.iload_n 3, 1) := by decide +kernel
theorem dX7_setImage_6 : decode cX7_setImage 6 = .ok (.iload 4, 2) := by decide +kernel
theorem dX7_setImage_8 : decode cX7_setImage 8 = .ok (.invokevirtual 42, 3) := by decide +kernel
theorem dX7_setImage_11 : decode cX7_setImage 11 = .ok (.istore 5, 2) := by decide +kernel
theorem dX7_setImage_13 : decode cX7_setImage 13 = .ok (.iload 5, 2) := by decide +kernel
theorem dX7_setImage_15 : decode cX7_setImage 15 = .ok (.iconst (-1), 1) := by decide +kernel
theorem dX7_setImage_16 : decode cX7_setImage 16 = .ok (.if_icmp .ne 4, 3) := by decide +kernel
theorem dX7_setImage_19 : decode cX7_setImage 19 = .ok (.return_, 1) := by decide +kernel
theorem dX7_setImage_20 : decode cX7_setImage 20 = .ok (.iload_n 2, 1) := by decide +kernel
theorem dX7_setImage_21 : decode cX7_setImage 21 = .ok (.ifCond .eq 13, 3) := by decide +kernel
theorem dX7_setImage_24 : decode cX7_setImage 24 = .ok (.aload_n 0, 1) := by decide +kernel
theorem dX7_setImage_25 : decode cX7_setImage 25 = .ok (.getfield 22, 3) := by decide +kernel
theorem dX7_setImage_28 : decode cX7_setImage 28 = .ok (.getfield 26, 3) := by decide +kernel
theorem dX7_setImage_31 : decode cX7_setImage 31 = .ok (.goto 12, 3) := by decide +kernel
theorem dX7_setImage_34 : decode cX7_setImage 34 = .ok (.aload_n 0, 1) := by decide +kernel
theorem dX7_setImage_35 : decode cX7_setImage 35 = .ok (.getfield 22, 3) := by decide +kernel
theorem dX7_setImage_38 : decode cX7_setImage 38 = .ok (.getfield 26, 3) := by decide +kernel
theorem dX7_setImage_41 : decode cX7_setImage 41 = .ok (.iconst 1, 1) := by decide +kernel
theorem dX7_setImage_42 : decode cX7_setImage 42 = .ok (.isub, 1) := by decide +kernel
theorem dX7_setImage_43 : decode cX7_setImage 43 = .ok (.istore 6, 2) := by decide +kernel
theorem dX7_setImage_45 : decode cX7_setImage 45 = .ok (.iload_n 2, 1) := by decide +kernel
theorem dX7_setImage_46 : decode cX7_setImage 46 = .ok (.ifCond .eq 15, 3) := by decide +kernel
theorem dX7_setImage_49 : decode cX7_setImage 49 = .ok (.aload_n 0, 1) := by decide +kernel
theorem dX7_setImage_50 : decode cX7_setImage 50 = .ok (.getfield 22, 3) := by decide +kernel
theorem dX7_setImage_53 : decode cX7_setImage 53 = .ok (.getfield 32, 3) := by decide +kernel
theorem dX7_setImage_56 : decode cX7_setImage 56 = .ok (.iconst 1, 1) := by decide +kernel
theorem dX7_setImage_57 : decode cX7_setImage 57 = .ok (.isub, 1) := by decide +kernel
theorem dX7_setImage_58 : decode cX7_setImage 58 = .ok (.goto 10, 3) := by decide +kernel
theorem dX7_setImage_61 : decode cX7_setImage 61 = .ok (.aload_n 0, 1) := by decide +kernel
theorem dX7_setImage_62 : decode cX7_setImage 62 = .ok (.getfield 22, 3) := by decide +kernel
theorem dX7_setImage_65 : decode cX7_setImage 65 = .ok (.getfield 32, 3) := by decide +kernel
theorem dX7_setImage_68 : decode cX7_setImage 68 = .ok (.istore 7, 2) := by decide +kernel
theorem dX7_setImage_70 : decode cX7_setImage 70 = .ok (.iload_n 1, 1) := by decide +kernel
theorem dX7_setImage_71 : decode cX7_setImage 71 = .ok (.iconst 1, 1) := by decide +kernel
theorem dX7_setImage_72 : decode cX7_setImage 72 = .ok (.iand, 1) := by decide +kernel
theorem dX7_setImage_73 : decode cX7_setImage 73 = .ok (.ifCond .eq 10, 3) := by decide +kernel
theorem dX7_setImage_76 : decode cX7_setImage 76 = .ok (.iload 6, 2) := by decide +kernel
theorem dX7_setImage_78 : decode cX7_setImage 78 = .ok (.iload_n 3, 1) := by decide +kernel
theorem dX7_setImage_79 : decode cX7_setImage 79 = .ok (.isub, 1) := by decide +kernel
theorem dX7_setImage_80 : decode cX7_setImage 80 = .ok (.goto 4, 3) := by decide +kernel
theorem dX7_setImage_83 : decode cX7_setImage 83 = .ok (.iload_n 3, 1) := by decide +kernel
theorem dX7_setImage_84 : decode cX7_setImage 84 = .ok (.istore 8, 2) := by decide +kernel
theorem dX7_setImage_86 : decode cX7_setImage 86 = .ok (.iload_n 1, 1) := by decide +kernel
theorem dX7_setImage_87 : decode cX7_setImage 87 = .ok (.iconst 2, 1) := by decide +kernel
theorem dX7_setImage_88 : decode cX7_setImage 88 = .ok (.iand, 1) := by decide +kernel
theorem dX7_setImage_89 : decode cX7_setImage 89 = .ok (.ifCond .eq 11, 3) := by decide +kernel
theorem dX7_setImage_92 : decode cX7_setImage 92 = .ok (.iload 7, 2) := by decide +kernel
theorem dX7_setImage_94 : decode cX7_setImage 94 = .ok (.iload 4, 2) := by decide +kernel
theorem dX7_setImage_96 : decode cX7_setImage 96 = .ok (.isub, 1) := by decide +kernel
theorem dX7_setImage_97 : decode cX7_setImage 97 = .ok (.goto 5, 3) := by decide +kernel
theorem dX7_setImage_100 : decode cX7_setImage 100 = .ok (.iload 4, 2) := by decide +kernel
theorem dX7_setImage_102 : decode cX7_setImage 102 = .ok (.istore 9, 2) := by decide +kernel
theorem dX7_setImage_104 : decode cX7_setImage 104 = .ok (.iload_n 1, 1) := by decide +kernel
theorem dX7_setImage_105 : decode cX7_setImage 105 = .ok (.iconst 4, 1) := by decide +kernel
theorem dX7_setImage_106 : decode cX7_setImage 106 = .ok (.iand, 1) := by decide +kernel
theorem dX7_setImage_107 : decode cX7_setImage 107 = .ok (.ifCond .eq 26, 3) := by decide +kernel
theorem dX7_setImage_110 : decode cX7_setImage 110 = .ok (.aload_n 0, 1) := by decide +kernel
theorem dX7_setImage_111 : decode cX7_setImage 111 = .ok (.getfield 22, 3) := by decide +kernel
theorem dX7_setImage_114 : decode cX7_setImage 114 = .ok (.iload_n 2, 1) := by decide +kernel
theorem dX7_setImage_115 : decode cX7_setImage 115 = .ok (.ifCond .ne 7, 3) := by decide +kernel
theorem dX7_setImage_118 : decode cX7_setImage 118 = .ok (.iconst 1, 1) := by decide +kernel
theorem dX7_setImage_119 : decode cX7_setImage 119 = .ok (.goto 4, 3) := by decide +kernel
theorem dX7_setImage_122 : decode cX7_setImage 122 = .ok (.iconst 0, 1) := by decide +kernel
theorem dX7_setImage_123 : decode cX7_setImage 123 = .ok (.iload 9, 2) := by decide +kernel
theorem dX7_setImage_125 : decode cX7_setImage 125 = .ok (.iload 8, 2) := by decide +kernel
theorem dX7_setImage_127 : decode cX7_setImage 127 = .ok (.invokevirtual 42, 3) := by decide +kernel
theorem dX7_setImage_130 : decode cX7_setImage 130 = .ok (.goto 15, 3) := by decide +kernel
theorem dX7_setImage_133 : decode cX7_setImage 133 = .ok (.aload_n 0, 1) := by decide +kernel
theorem dX7_setImage_134 : decode cX7_setImage 134 = .ok (.getfield 22, 3) := by decide +kernel
theorem dX7_setImage_137 : decode cX7_setImage 137 = .ok (.iload_n 2, 1) := by decide +kernel
theorem dX7_setImage_138 : decode cX7_setImage 138 = .ok (.iload 8, 2) := by decide +kernel
theorem dX7_setImage_140 : decode cX7_setImage 140 = .ok (.iload 9, 2) := by decide +kernel
theorem dX7_setImage_142 : decode cX7_setImage 142 = .ok (.invokevirtual 42, 3) := by decide +kernel
theorem dX7_setImage_145 : decode cX7_setImage 145 = .ok (.istore 10, 2) := by decide +kernel
theorem dX7_setImage_147 : decode cX7_setImage 147 = .ok (.aload_n 0, 1) := by decide +kernel
theorem dX7_setImage_148 : decode cX7_setImage 148 = .ok (.getfield 9, 3) := by decide +kernel
theorem dX7_setImage_151 : decode cX7_setImage 151 = .ok (.iload_n 1, 1) := by decide +kernel
theorem dX7_setImage_152 : decode cX7_setImage 152 = .ok (.bipush 40, 2) := by decide +kernel
theorem dX7_setImage_154 : decode cX7_setImage 154 = .ok (.imul, 1) := by decide +kernel
theorem dX7_setImage_155 : decode cX7_setImage 155 = .ok (.iload 5, 2) := by decide +kernel
theorem dX7_setImage_157 : decode cX7_setImage 157 = .ok (.iadd, 1) := by decide +kernel
theorem dX7_setImage_158 : decode cX7_setImage 158 = .ok (.iload 10, 2) := by decide +kernel
theorem dX7_setImage_160 : decode cX7_setImage 160 = .ok (.invokestatic 46, 3) := by decide +kernel
theorem dX7_setImage_163 : decode cX7_setImage 163 = .ok (.return_, 1) := by decide +kernel
set_option maxRecDepth 20000 in
theorem ggX7_imageOf_X3_at : GoodIn wsX7_imageOf wsX3_at := goodIn_r _ [5] (by decide +kernel) (by decide +kernel)
set_option maxRecDepth 20000 in
theorem gX7_imageOf_X3_at : GoodIn wsX7_imageOf (va_wsS RX7 52 yX3_at wsX3_at) := goodIn_app (goodIn_of _ (by decide +kernel)) ggX7_imageOf_X3_at
theorem dX7_imageOf_0 : decode cX7_imageOf 0 = .ok (.aload_n 0, 1) := by decide +kernel
theorem dX7_imageOf_1 : decode cX7_imageOf 1 = .ok (.getfield 9, 3) := by decide +kernel
theorem dX7_imageOf_4 : decode cX7_imageOf 4 = .ok (.iload_n 1, 1) := by decide +kernel
theorem dX7_imageOf_5 : decode cX7_imageOf 5 = .ok (.bipush 40, 2) := by decide +kernel
theorem dX7_imageOf_7 : decode cX7_imageOf 7 = .ok (.imul, 1) := by decide +kernel
theorem dX7_imageOf_8 : decode cX7_imageOf 8 = .ok (.iload_n 2, 1) := by decide +kernel
theorem dX7_imageOf_9 : decode cX7_imageOf 9 = .ok (.iadd, 1) := by decide +kernel
theorem dX7_imageOf_10 : decode cX7_imageOf 10 = .ok (.invokestatic 52, 3) := by decide +kernel
theorem dX7_imageOf_13 : decode cX7_imageOf 13 = .ok (.ireturn, 1) := by decide +kernel
set_option maxRecDepth 20000 in
theorem ggX7_codeOf_X3_at_ : GoodIn wsX7_codeOf wsX3_at_ := goodIn_r _ [5] (by decide +kernel) (by decide +kernel)
set_option maxRecDepth 20000 in
theorem gX7_codeOf_X3_at_ : GoodIn wsX7_codeOf (va_wsS RX7 56 yX3_at_ wsX3_at_) := goodIn_app (goodIn_of _ (by decide +kernel)) ggX7_codeOf_X3_at_
theorem dX7_codeOf_0 : decode cX7_codeOf 0 = .ok (.aload_n 0, 1) := by decide +kernel
theorem dX7_codeOf_1 : decode cX7_codeOf 1 = .ok (.getfield 15, 3) := by decide +kernel
theorem dX7_codeOf_4 : decode cX7_codeOf 4 = .ok (.iload_n 1, 1) := by decide +kernel
theorem dX7_codeOf_5 : decode cX7_codeOf 5 = .ok (.invokestatic 56, 3) := by decide +kernel
theorem dX7_codeOf_8 : decode cX7_codeOf 8 = .ok (.lreturn, 1) := by decide +kernel
set_option maxRecDepth 20000 in
theorem ggX7_encode_X8_contains : GoodIn wsX7_encode wsX8_contains := goodIn_r _ [7, 8, 9, 6, 10] (by decide +kernel) (by decide +kernel)
set_option maxRecDepth 20000 in
theorem gX7_encode_X8_contains_n62 : GoodIn wsX7_encode (wsX8_contains) := ggX7_encode_X8_contains
set_option maxRecDepth 20000 in
theorem ggX7_encode_X7_imageOf : GoodIn wsX7_encode wsX7_imageOf := goodIn_r _ [15, 16, 17, 18, 19, 20, 24, 25, 26, 27, 28] (by decide +kernel) (by decide +kernel)
set_option maxRecDepth 20000 in
theorem gX7_encode_X7_imageOf : GoodIn wsX7_encode (wsV RX7 66 RX7 yX7_imageOf wsX7_imageOf) := goodIn_app (goodIn_of _ (by decide +kernel)) ggX7_encode_X7_imageOf
set_option maxRecDepth 20000 in
theorem ggX7_encode_X8_bit : GoodIn wsX7_encode wsX8_bit := goodIn_r _ [10] (by decide +kernel) (by decide +kernel)
set_option maxRecDepth 20000 in
theorem gX7_encode_X8_bit_n70 : GoodIn wsX7_encode (wsX8_bit) := ggX7_encode_X8_bit
set_option maxRecDepth 20000 in
theorem ggX7_encode_X3_put_ : GoodIn wsX7_encode wsX3_put_ := goodIn_r _ [23] (by decide +kernel) (by decide +kernel)
set_option maxRecDepth 20000 in
theorem gX7_encode_X3_put_ : GoodIn wsX7_encode (va_wsS RX7 74 yX3_put_ wsX3_put_) := goodIn_app (goodIn_of _ (by decide +kernel)) ggX7_encode_X3_put_
theorem dX7_encode_0 : decode cX7_encode 0 = .ok (.iconst 0, 1) := by decide +kernel
theorem dX7_encode_1 : decode cX7_encode 1 = .ok (.istore_n 3, 1) := by decide +kernel
theorem dX7_encode_2 : decode cX7_encode 2 = .ok (.iload_n 3, 1) := by decide +kernel
theorem dX7_encode_3 : decode cX7_encode 3 = .ok (.aload_n 0, 1) := by decide +kernel
theorem dX7_encode_4 : decode cX7_encode 4 = .ok (.getfield 35, 3) := by decide +kernel
theorem dX7_encode_7 : decode cX7_encode 7 = .ok (.if_icmp .ge 67, 3) := by decide +kernel
theorem dX7_encode_10 : decode cX7_encode 10 = .ok (.lconst 0, 1) := by decide +kernel
theorem dX7_encode_11 : decode cX7_encode 11 = .ok (.lstore 4, 2) := by decide +kernel
theorem dX7_encode_13 : decode cX7_encode 13 = .ok (.iconst 0, 1) := by decide +kernel
theorem dX7_encode_14 : decode cX7_encode 14 = .ok (.istore 6, 2) := by decide +kernel
theorem dX7_encode_16 : decode cX7_encode 16 = .ok (.iload 6, 2) := by decide +kernel
theorem dX7_encode_18 : decode cX7_encode 18 = .ok (.aload_n 0, 1) := by decide +kernel
theorem dX7_encode_19 : decode cX7_encode 19 = .ok (.getfield 22, 3) := by decide +kernel
theorem dX7_encode_22 : decode cX7_encode 22 = .ok (.getfield 59, 3) := by decide +kernel
theorem dX7_encode_25 : decode cX7_encode 25 = .ok (.if_icmp .ge 33, 3) := by decide +kernel
theorem dX7_encode_28 : decode cX7_encode 28 = .ok (.lload_n 1, 1) := by decide +kernel
theorem dX7_encode_29 : decode cX7_encode 29 = .ok (.iload 6, 2) := by decide +kernel
theorem dX7_encode_31 : decode cX7_encode 31 = .ok (.invokestatic 62, 3) := by decide +kernel
theorem dX7_encode_34 : decode cX7_encode 34 = .ok (.ifCond .eq 18, 3) := by decide +kernel
theorem dX7_encode_37 : decode cX7_encode 37 = .ok (.lload 4, 2) := by decide +kernel
theorem dX7_encode_39 : decode cX7_encode 39 = .ok (.aload_n 0, 1) := by decide +kernel
theorem dX7_encode_40 : decode cX7_encode 40 = .ok (.iload_n 3, 1) := by decide +kernel
theorem dX7_encode_41 : decode cX7_encode 41 = .ok (.iload 6, 2) := by decide +kernel
theorem dX7_encode_43 : decode cX7_encode 43 = .ok (.invokevirtual 66, 3) := by decide +kernel
theorem dX7_encode_46 : decode cX7_encode 46 = .ok (.invokestatic 70, 3) := by decide +kernel
theorem dX7_encode_49 : decode cX7_encode 49 = .ok (.lor, 1) := by decide +kernel
theorem dX7_encode_50 : decode cX7_encode 50 = .ok (.lstore 4, 2) := by decide +kernel
theorem dX7_encode_52 : decode cX7_encode 52 = .ok (.iinc 6 1, 3) := by decide +kernel
theorem dX7_encode_55 : decode cX7_encode 55 = .ok (.goto (-39), 3) := by decide +kernel
theorem dX7_encode_58 : decode cX7_encode 58 = .ok (.aload_n 0, 1) := by decide +kernel
theorem dX7_encode_59 : decode cX7_encode 59 = .ok (.getfield 15, 3) := by decide +kernel
theorem dX7_encode_62 : decode cX7_encode 62 = .ok (.iload_n 3, 1) := by decide +kernel
theorem dX7_encode_63 : decode cX7_encode 63 = .ok (.lload 4, 2) := by decide +kernel
theorem dX7_encode_65 : decode cX7_encode 65 = .ok (.invokestatic 74, 3) := by decide +kernel
theorem dX7_encode_68 : decode cX7_encode 68 = .ok (.iinc 3 1, 3) := by decide +kernel
theorem dX7_encode_71 : decode cX7_encode 71 = .ok (.goto (-69), 3) := by decide +kernel
theorem dX7_encode_74 : decode cX7_encode 74 = .ok (.return_, 1) := by decide +kernel
set_option maxRecDepth 20000 in
theorem ggX7_lowestCode_X7_encode : GoodIn wsX7_lowestCode wsX7_encode := goodIn_r _ [10, 1, 11, 12, 13, 14, 15, 16, 17, 18, 19, 20, 21, 22, 9, 23, 24, 25, 26, 27, 28, 29, 30, 31, 39, 40, 41, 42, 43, 44, 45, 46, 47, 48, 49, 50] (by decide +kernel) (by decide +kernel)
set_option maxRecDepth 20000 in
theorem gX7_lowestCode_X7_encode : GoodIn wsX7_lowestCode (wsV RX7 77 RX7 yX7_encode wsX7_encode) := goodIn_app (goodIn_of _ (by decide +kernel)) ggX7_lowestCode_X7_encode
set_option maxRecDepth 20000 in
theorem ggX7_lowestCode_X7_codeOf : GoodIn wsX7_lowestCode wsX7_codeOf := goodIn_r _ [35, 13, 36, 37, 27, 38, 39, 40, 41, 42, 43] (by decide +kernel) (by decide +kernel)
set_option maxRecDepth 20000 in
theorem gX7_lowestCode_X7_codeOf : GoodIn wsX7_lowestCode (wsV RX7 81 RX7 yX7_codeOf wsX7_codeOf) := goodIn_app (goodIn_of _ (by decide +kernel)) ggX7_lowestCode_X7_codeOf
theorem dX7_lowestCode_0 : decode cX7_lowestCode 0 = .ok (.aload_n 0, 1) := by decide +kernel
theorem dX7_lowestCode_1 : decode cX7_lowestCode 1 = .ok (.lload_n 1, 1) := by decide +kernel
theorem dX7_lowestCode_2 : decode cX7_lowestCode 2 = .ok (.invokevirtual 77, 3) := by decide +kernel
theorem dX7_lowestCode_5 : decode cX7_lowestCode 5 = .ok (.aload_n 0, 1) := by decide +kernel
theorem dX7_lowestCode_6 : decode cX7_lowestCode 6 = .ok (.iconst 0, 1) := by decide +kernel
theorem dX7_lowestCode_7 : decode cX7_lowestCode 7 = .ok (.invokevirtual 81, 3) := by decide +kernel
theorem dX7_lowestCode_10 : decode cX7_lowestCode 10 = .ok (.lstore_n 3, 1) := by decide +kernel
theorem dX7_lowestCode_11 : decode cX7_lowestCode 11 = .ok (.iconst 1, 1) := by decide +kernel
theorem dX7_lowestCode_12 : decode cX7_lowestCode 12 = .ok (.istore 5, 2) := by decide +kernel
theorem dX7_lowestCode_14 : decode cX7_lowestCode 14 = .ok (.iload 5, 2) := by decide +kernel
theorem dX7_lowestCode_16 : decode cX7_lowestCode 16 = .ok (.aload_n 0, 1) := by decide +kernel
theorem dX7_lowestCode_17 : decode cX7_lowestCode 17 = .ok (.getfield 35, 3) := by decide +kernel
theorem dX7_lowestCode_20 : decode cX7_lowestCode 20 = .ok (.if_icmp .ge 20, 3) := by decide +kernel
theorem dX7_lowestCode_23 : decode cX7_lowestCode 23 = .ok (.lload_n 3, 1) := by decide +kernel
theorem dX7_lowestCode_24 : decode cX7_lowestCode 24 = .ok (.aload_n 0, 1) := by decide +kernel
theorem dX7_lowestCode_25 : decode cX7_lowestCode 25 = .ok (.iload 5, 2) := by decide +kernel
theorem dX7_lowestCode_27 : decode cX7_lowestCode 27 = .ok (.invokevirtual 81, 3) := by decide +kernel
theorem dX7_lowestCode_30 : decode cX7_lowestCode 30 = .ok (.invokestatic 84, 3) := by decide +kernel
theorem dX7_lowestCode_33 : decode cX7_lowestCode 33 = .ok (.lstore_n 3, 1) := by decide +kernel
theorem dX7_lowestCode_34 : decode cX7_lowestCode 34 = .ok (.iinc 5 1, 3) := by decide +kernel
theorem dX7_lowestCode_37 : decode cX7_lowestCode 37 = .ok (.goto (-23), 3) := by decide +kernel
theorem dX7_lowestCode_40 : decode cX7_lowestCode 40 = .ok (.lload_n 3, 1) := by decide +kernel
theorem dX7_lowestCode_41 : decode cX7_lowestCode 41 = .ok (.lreturn, 1) := by decide +kernel
set_option maxRecDepth 20000 in
theorem ggX7_keepingCount_X7_encode : GoodIn wsX7_keepingCount wsX7_encode := goodIn_r _ [6, 1, 7, 8, 9, 10, 11, 12, 13, 14, 15, 16, 17, 18, 5, 19, 20, 21, 22, 23, 24, 25, 26, 27, 35, 36, 37, 38, 39, 40, 41, 42, 43, 44, 45, 46] (by decide +kernel) (by decide +kernel)
set_option maxRecDepth 20000 in
theorem gX7_keepingCount_X7_encode : GoodIn wsX7_keepingCount (wsV RX7 77 RX7 yX7_encode wsX7_encode) := goodIn_app (goodIn_of _ (by decide +kernel)) ggX7_keepingCount_X7_encode
set_option maxRecDepth 20000 in
theorem ggX7_keepingCount_X7_codeOf : GoodIn wsX7_keepingCount wsX7_codeOf := goodIn_r _ [31, 9, 32, 33, 23, 34, 35, 36, 37, 38, 39] (by decide +kernel) (by decide +kernel)
set_option maxRecDepth 20000 in
theorem gX7_keepingCount_X7_codeOf : GoodIn wsX7_keepingCount (wsV RX7 81 RX7 yX7_codeOf wsX7_codeOf) := goodIn_app (goodIn_of _ (by decide +kernel)) ggX7_keepingCount_X7_codeOf
theorem dX7_keepingCount_0 : decode cX7_keepingCount 0 = .ok (.aload_n 0, 1) := by decide +kernel
theorem dX7_keepingCount_1 : decode cX7_keepingCount 1 = .ok (.lload_n 1, 1) := by decide +kernel
theorem dX7_keepingCount_2 : decode cX7_keepingCount 2 = .ok (.invokevirtual 77, 3) := by decide +kernel
theorem dX7_keepingCount_5 : decode cX7_keepingCount 5 = .ok (.iconst 0, 1) := by decide +kernel
theorem dX7_keepingCount_6 : decode cX7_keepingCount 6 = .ok (.istore_n 3, 1) := by decide +kernel
theorem dX7_keepingCount_7 : decode cX7_keepingCount 7 = .ok (.iconst 0, 1) := by decide +kernel
theorem dX7_keepingCount_8 : decode cX7_keepingCount 8 = .ok (.istore 4, 2) := by decide +kernel
theorem dX7_keepingCount_10 : decode cX7_keepingCount 10 = .ok (.iload 4, 2) := by decide +kernel
theorem dX7_keepingCount_12 : decode cX7_keepingCount 12 = .ok (.aload_n 0, 1) := by decide +kernel
theorem dX7_keepingCount_13 : decode cX7_keepingCount 13 = .ok (.getfield 35, 3) := by decide +kernel
theorem dX7_keepingCount_16 : decode cX7_keepingCount 16 = .ok (.if_icmp .ge 23, 3) := by decide +kernel
theorem dX7_keepingCount_19 : decode cX7_keepingCount 19 = .ok (.aload_n 0, 1) := by decide +kernel
theorem dX7_keepingCount_20 : decode cX7_keepingCount 20 = .ok (.iload 4, 2) := by decide +kernel
theorem dX7_keepingCount_22 : decode cX7_keepingCount 22 = .ok (.invokevirtual 81, 3) := by decide +kernel
theorem dX7_keepingCount_25 : decode cX7_keepingCount 25 = .ok (.lload_n 1, 1) := by decide +kernel
theorem dX7_keepingCount_26 : decode cX7_keepingCount 26 = .ok (.lcmp, 1) := by decide +kernel
theorem dX7_keepingCount_27 : decode cX7_keepingCount 27 = .ok (.ifCond .ne 6, 3) := by decide +kernel
theorem dX7_keepingCount_30 : decode cX7_keepingCount 30 = .ok (.iinc 3 1, 3) := by decide +kernel
theorem dX7_keepingCount_33 : decode cX7_keepingCount 33 = .ok (.iinc 4 1, 3) := by decide +kernel
theorem dX7_keepingCount_36 : decode cX7_keepingCount 36 = .ok (.goto (-26), 3) := by decide +kernel
theorem dX7_keepingCount_39 : decode cX7_keepingCount 39 = .ok (.iload_n 3, 1) := by decide +kernel
theorem dX7_keepingCount_40 : decode cX7_keepingCount 40 = .ok (.ireturn, 1) := by decide +kernel
set_option maxRecDepth 20000 in
theorem ggX7_followerCount_X7_encode : GoodIn wsX7_followerCount wsX7_encode := goodIn_r _ [8, 9, 1, 2, 10, 11, 12, 13, 14, 15, 16, 17, 18, 19, 7, 20, 21, 22, 23, 24, 25, 26, 27, 28, 48, 49, 50, 51, 52, 53, 54, 55, 56, 57, 58, 59] (by decide +kernel) (by decide +kernel)
set_option maxRecDepth 20000 in
theorem gX7_followerCount_X7_encode : GoodIn wsX7_followerCount (wsV RX7 77 RX7 yX7_encode wsX7_encode) := goodIn_app (goodIn_of _ (by decide +kernel)) ggX7_followerCount_X7_encode
set_option maxRecDepth 20000 in
theorem ggX7_followerCount_X8_contains : GoodIn wsX7_followerCount wsX8_contains := goodIn_r _ [13, 14, 15, 12, 16] (by decide +kernel) (by decide +kernel)
set_option maxRecDepth 20000 in
theorem gX7_followerCount_X8_contains_n62 : GoodIn wsX7_followerCount (wsX8_contains) := ggX7_followerCount_X8_contains
set_option maxRecDepth 20000 in
theorem ggX7_followerCount_X7_lowestCodeBehind : GoodIn wsX7_followerCount wsX7_lowestCodeBehind := goodIn_r _ [32, 9, 33, 34, 35, 36, 37, 38, 39, 7, 40, 10, 41, 42, 24, 43, 17, 18, 19, 20, 21, 22, 23, 25, 15, 12, 16, 48, 49, 50, 51, 52] (by decide +kernel) (by decide +kernel)
set_option maxRecDepth 20000 in
theorem gX7_followerCount_X7_lowestCodeBehind : GoodIn wsX7_followerCount (wsV RX7 90 RX7 yX7_lowestCodeBehind wsX7_lowestCodeBehind) := goodIn_app (goodIn_of _ (by decide +kernel)) ggX7_followerCount_X7_lowestCodeBehind
set_option maxRecDepth 20000 in
theorem ggX7_followerCount_X7_isFound : GoodIn wsX7_followerCount wsX7_isFound := goodIn_r _ [47, 3, 41, 42, 24, 43, 48, 49, 50, 51, 52] (by decide +kernel) (by decide +kernel)
set_option maxRecDepth 20000 in
theorem gX7_followerCount_X7_isFound : GoodIn wsX7_followerCount (wsV RX7 93 RX7 yX7_isFound wsX7_isFound) := goodIn_app (goodIn_of _ (by decide +kernel)) ggX7_followerCount_X7_isFound
set_option maxRecDepth 20000 in
theorem ggX7_followerCount_X3_put_ : GoodIn wsX7_followerCount wsX3_put_ := goodIn_r _ [28] (by decide +kernel) (by decide +kernel)
set_option maxRecDepth 20000 in
theorem gX7_followerCount_X3_put_ : GoodIn wsX7_followerCount (va_wsS RX7 74 yX3_put_ wsX3_put_) := goodIn_app (goodIn_of _ (by decide +kernel)) ggX7_followerCount_X3_put_
theorem dX7_followerCount_0 : decode cX7_followerCount 0 = .ok (.aload_n 0, 1) := by decide +kernel
theorem dX7_followerCount_1 : decode cX7_followerCount 1 = .ok (.lload_n 1, 1) := by decide +kernel
theorem dX7_followerCount_2 : decode cX7_followerCount 2 = .ok (.invokevirtual 77, 3) := by decide +kernel
theorem dX7_followerCount_5 : decode cX7_followerCount 5 = .ok (.iconst 0, 1) := by decide +kernel
theorem dX7_followerCount_6 : decode cX7_followerCount 6 = .ok (.istore_n 3, 1) := by decide +kernel
theorem dX7_followerCount_7 : decode cX7_followerCount 7 = .ok (.iconst 0, 1) := by decide +kernel
theorem dX7_followerCount_8 : decode cX7_followerCount 8 = .ok (.istore 4, 2) := by decide +kernel
theorem dX7_followerCount_10 : decode cX7_followerCount 10 = .ok (.iload 4, 2) := by decide +kernel
theorem dX7_followerCount_12 : decode cX7_followerCount 12 = .ok (.aload_n 0, 1) := by decide +kernel
theorem dX7_followerCount_13 : decode cX7_followerCount 13 = .ok (.getfield 22, 3) := by decide +kernel
theorem dX7_followerCount_16 : decode cX7_followerCount 16 = .ok (.getfield 59, 3) := by decide +kernel
theorem dX7_followerCount_19 : decode cX7_followerCount 19 = .ok (.if_icmp .ge 49, 3) := by decide +kernel
theorem dX7_followerCount_22 : decode cX7_followerCount 22 = .ok (.lload_n 1, 1) := by decide +kernel
theorem dX7_followerCount_23 : decode cX7_followerCount 23 = .ok (.iload 4, 2) := by decide +kernel
theorem dX7_followerCount_25 : decode cX7_followerCount 25 = .ok (.invokestatic 62, 3) := by decide +kernel
theorem dX7_followerCount_28 : decode cX7_followerCount 28 = .ok (.ifCond .ne 34, 3) := by decide +kernel
theorem dX7_followerCount_31 : decode cX7_followerCount 31 = .ok (.aload_n 0, 1) := by decide +kernel
theorem dX7_followerCount_32 : decode cX7_followerCount 32 = .ok (.iload 4, 2) := by decide +kernel
theorem dX7_followerCount_34 : decode cX7_followerCount 34 = .ok (.invokevirtual 90, 3) := by decide +kernel
theorem dX7_followerCount_37 : decode cX7_followerCount 37 = .ok (.lstore 5, 2) := by decide +kernel
theorem dX7_followerCount_39 : decode cX7_followerCount 39 = .ok (.aload_n 0, 1) := by decide +kernel
theorem dX7_followerCount_40 : decode cX7_followerCount 40 = .ok (.lload 5, 2) := by decide +kernel
theorem dX7_followerCount_42 : decode cX7_followerCount 42 = .ok (.iload_n 3, 1) := by decide +kernel
theorem dX7_followerCount_43 : decode cX7_followerCount 43 = .ok (.invokevirtual 93, 3) := by decide +kernel
theorem dX7_followerCount_46 : decode cX7_followerCount 46 = .ok (.ifCond .ne 16, 3) := by decide +kernel
theorem dX7_followerCount_49 : decode cX7_followerCount 49 = .ok (.aload_n 0, 1) := by decide +kernel
theorem dX7_followerCount_50 : decode cX7_followerCount 50 = .ok (.getfield 19, 3) := by decide +kernel
theorem dX7_followerCount_53 : decode cX7_followerCount 53 = .ok (.iload_n 3, 1) := by decide +kernel
theorem dX7_followerCount_54 : decode cX7_followerCount 54 = .ok (.lload 5, 2) := by decide +kernel
theorem dX7_followerCount_56 : decode cX7_followerCount 56 = .ok (.invokestatic 74, 3) := by decide +kernel
theorem dX7_followerCount_59 : decode cX7_followerCount 59 = .ok (.iinc 3 1, 3) := by decide +kernel
theorem dX7_followerCount_62 : decode cX7_followerCount 62 = .ok (.iinc 4 1, 3) := by decide +kernel
theorem dX7_followerCount_65 : decode cX7_followerCount 65 = .ok (.goto (-55), 3) := by decide +kernel
theorem dX7_followerCount_68 : decode cX7_followerCount 68 = .ok (.iload_n 3, 1) := by decide +kernel
theorem dX7_followerCount_69 : decode cX7_followerCount 69 = .ok (.ireturn, 1) := by decide +kernel
set_option maxRecDepth 20000 in
theorem ggX7_lowestCodeBehind_X7_codeOf : GoodIn wsX7_lowestCodeBehind wsX7_codeOf := goodIn_r _ [10, 11, 12, 13, 14, 15, 27, 28, 29, 30, 31] (by decide +kernel) (by decide +kernel)
set_option maxRecDepth 20000 in
theorem gX7_lowestCodeBehind_X7_codeOf : GoodIn wsX7_lowestCodeBehind (wsV RX7 81 RX7 yX7_codeOf wsX7_codeOf) := goodIn_app (goodIn_of _ (by decide +kernel)) ggX7_lowestCodeBehind_X7_codeOf
set_option maxRecDepth 20000 in
theorem ggX7_lowestCodeBehind_X7_imageOf : GoodIn wsX7_lowestCodeBehind wsX7_imageOf := goodIn_r _ [19, 20, 21, 22, 14, 23, 27, 28, 29, 30, 31] (by decide +kernel) (by decide +kernel)
set_option maxRecDepth 20000 in
theorem gX7_lowestCodeBehind_X7_imageOf : GoodIn wsX7_lowestCodeBehind (wsV RX7 66 RX7 yX7_imageOf wsX7_imageOf) := goodIn_app (goodIn_of _ (by decide +kernel)) ggX7_lowestCodeBehind_X7_imageOf
set_option maxRecDepth 20000 in
theorem ggX7_lowestCodeBehind_X8_bit : GoodIn wsX7_lowestCodeBehind wsX8_bit := goodIn_r _ [26] (by decide +kernel) (by decide +kernel)
set_option maxRecDepth 20000 in
theorem gX7_lowestCodeBehind_X8_bit_n70 : GoodIn wsX7_lowestCodeBehind (wsX8_bit) := ggX7_lowestCodeBehind_X8_bit
theorem dX7_lowestCodeBehind_0 : decode cX7_lowestCodeBehind 0 = .ok (.aload_n 0, 1) := by decide +kernel
theorem dX7_lowestCodeBehind_1 : decode cX7_lowestCodeBehind 1 = .ok (.iconst 0, 1) := by decide +kernel
theorem dX7_lowestCodeBehind_2 : decode cX7_lowestCodeBehind 2 = .ok (.invokevirtual 81, 3) := by decide +kernel
theorem dX7_lowestCodeBehind_5 : decode cX7_lowestCodeBehind 5 = .ok (.aload_n 0, 1) := by decide +kernel
theorem dX7_lowestCodeBehind_6 : decode cX7_lowestCodeBehind 6 = .ok (.iconst 0, 1) := by decide +kernel
theorem dX7_lowestCodeBehind_7 : decode cX7_lowestCodeBehind 7 = .ok (.iload_n 1, 1) := by decide +kernel
theorem dX7_lowestCodeBehind_8 : decode cX7_lowestCodeBehind 8 = .ok (.invokevirtual 66, 3) := by decide +kernel
theorem dX7_lowestCodeBehind_11 : decode cX7_lowestCodeBehind 11 = .ok (.invokestatic 70, 3) := by decide +kernel
theorem dX7_lowestCodeBehind_14 : decode cX7_lowestCodeBehind 14 = .ok (.lor, 1) := by decide +kernel
theorem dX7_lowestCodeBehind_15 : decode cX7_lowestCodeBehind 15 = .ok (.lstore_n 2, 1) := by decide +kernel
theorem dX7_lowestCodeBehind_16 : decode cX7_lowestCodeBehind 16 = .ok (.iconst 1, 1) := by decide +kernel
theorem dX7_lowestCodeBehind_17 : decode cX7_lowestCodeBehind 17 = .ok (.istore 4, 2) := by decide +kernel
theorem dX7_lowestCodeBehind_19 : decode cX7_lowestCodeBehind 19 = .ok (.iload 4, 2) := by decide +kernel
theorem dX7_lowestCodeBehind_21 : decode cX7_lowestCodeBehind 21 = .ok (.aload_n 0, 1) := by decide +kernel
theorem dX7_lowestCodeBehind_22 : decode cX7_lowestCodeBehind 22 = .ok (.getfield 35, 3) := by decide +kernel
theorem dX7_lowestCodeBehind_25 : decode cX7_lowestCodeBehind 25 = .ok (.if_icmp .ge 31, 3) := by decide +kernel
theorem dX7_lowestCodeBehind_28 : decode cX7_lowestCodeBehind 28 = .ok (.lload_n 2, 1) := by decide +kernel
theorem dX7_lowestCodeBehind_29 : decode cX7_lowestCodeBehind 29 = .ok (.aload_n 0, 1) := by decide +kernel
theorem dX7_lowestCodeBehind_30 : decode cX7_lowestCodeBehind 30 = .ok (.iload 4, 2) := by decide +kernel
theorem dX7_lowestCodeBehind_32 : decode cX7_lowestCodeBehind 32 = .ok (.invokevirtual 81, 3) := by decide +kernel
theorem dX7_lowestCodeBehind_35 : decode cX7_lowestCodeBehind 35 = .ok (.aload_n 0, 1) := by decide +kernel
theorem dX7_lowestCodeBehind_36 : decode cX7_lowestCodeBehind 36 = .ok (.iload 4, 2) := by decide +kernel
theorem dX7_lowestCodeBehind_38 : decode cX7_lowestCodeBehind 38 = .ok (.iload_n 1, 1) := by decide +kernel
theorem dX7_lowestCodeBehind_39 : decode cX7_lowestCodeBehind 39 = .ok (.invokevirtual 66, 3) := by decide +kernel
theorem dX7_lowestCodeBehind_42 : decode cX7_lowestCodeBehind 42 = .ok (.invokestatic 70, 3) := by decide +kernel
theorem dX7_lowestCodeBehind_45 : decode cX7_lowestCodeBehind 45 = .ok (.lor, 1) := by decide +kernel
theorem dX7_lowestCodeBehind_46 : decode cX7_lowestCodeBehind 46 = .ok (.invokestatic 84, 3) := by decide +kernel
theorem dX7_lowestCodeBehind_49 : decode cX7_lowestCodeBehind 49 = .ok (.lstore_n 2, 1) := by decide +kernel
theorem dX7_lowestCodeBehind_50 : decode cX7_lowestCodeBehind 50 = .ok (.iinc 4 1, 3) := by decide +kernel
theorem dX7_lowestCodeBehind_53 : decode cX7_lowestCodeBehind 53 = .ok (.goto (-34), 3) := by decide +kernel
theorem dX7_lowestCodeBehind_56 : decode cX7_lowestCodeBehind 56 = .ok (.lload_n 2, 1) := by decide +kernel
theorem dX7_lowestCodeBehind_57 : decode cX7_lowestCodeBehind 57 = .ok (.lreturn, 1) := by decide +kernel
set_option maxRecDepth 20000 in
theorem ggX7_isFound_X3_at_ : GoodIn wsX7_isFound wsX3_at_ := goodIn_r _ [5] (by decide +kernel) (by decide +kernel)
set_option maxRecDepth 20000 in
theorem gX7_isFound_X3_at_ : GoodIn wsX7_isFound (va_wsS RX7 56 yX3_at_ wsX3_at_) := goodIn_app (goodIn_of _ (by decide +kernel)) ggX7_isFound_X3_at_
theorem dX7_isFound_0 : decode cX7_isFound 0 = .ok (.iconst 0, 1) := by decide +kernel
theorem dX7_isFound_1 : decode cX7_isFound 1 = .ok (.istore 4, 2) := by decide +kernel
theorem dX7_isFound_3 : decode cX7_isFound 3 = .ok (.iload 4, 2) := by decide +kernel
theorem dX7_isFound_5 : decode cX7_isFound 5 = .ok (.iload_n 3, 1) := by decide +kernel
theorem dX7_isFound_6 : decode cX7_isFound 6 = .ok (.if_icmp .ge 25, 3) := by decide +kernel
theorem dX7_isFound_9 : decode cX7_isFound 9 = .ok (.aload_n 0, 1) := by decide +kernel
theorem dX7_isFound_10 : decode cX7_isFound 10 = .ok (.getfield 19, 3) := by decide +kernel
theorem dX7_isFound_13 : decode cX7_isFound 13 = .ok (.iload 4, 2) := by decide +kernel
theorem dX7_isFound_15 : decode cX7_isFound 15 = .ok (.invokestatic 56, 3) := by decide +kernel
theorem dX7_isFound_18 : decode cX7_isFound 18 = .ok (.lload_n 1, 1) := by decide +kernel
theorem dX7_isFound_19 : decode cX7_isFound 19 = .ok (.lcmp, 1) := by decide +kernel
theorem dX7_isFound_20 : decode cX7_isFound 20 = .ok (.ifCond .ne 5, 3) := by decide +kernel
theorem dX7_isFound_23 : decode cX7_isFound 23 = .ok (.iconst 1, 1) := by decide +kernel
theorem dX7_isFound_24 : decode cX7_isFound 24 = .ok (.ireturn, 1) := by decide +kernel
theorem dX7_isFound_25 : decode cX7_isFound 25 = .ok (.iinc 4 1, 3) := by decide +kernel
theorem dX7_isFound_28 : decode cX7_isFound 28 = .ok (.goto (-25), 3) := by decide +kernel
theorem dX7_isFound_31 : decode cX7_isFound 31 = .ok (.iconst 0, 1) := by decide +kernel
theorem dX7_isFound_32 : decode cX7_isFound 32 = .ok (.ireturn, 1) := by decide +kernel
set_option maxRecDepth 20000 in
theorem ggX8_init_X0_init : GoodIn wsX8_init wsX0_init := goodIn_r _ [34, 35, 2, 3, 36, 37, 38, 39, 40, 165, 166, 167, 168, 169, 170, 171] (by decide +kernel) (by decide +kernel)
set_option maxRecDepth 20000 in
theorem gX8_init_X0_init_n9 : GoodIn wsX8_init (wsX0_init) := ggX8_init_X0_init
set_option maxRecDepth 20000 in
theorem ggX8_init_X2_init : GoodIn wsX8_init wsX2_init := goodIn_r _ [43, 44, 2, 3, 38, 45, 46, 47, 180, 181, 182, 183, 184, 185] (by decide +kernel) (by decide +kernel)
set_option maxRecDepth 20000 in
theorem gX8_init_X2_init : GoodIn wsX8_init (wsX2_init) := ggX8_init_X2_init
set_option maxRecDepth 20000 in
theorem ggX8_init_X5_init : GoodIn wsX8_init wsX5_init := goodIn_r _ [50, 51, 2, 3, 36, 52, 38, 53, 54, 55, 56, 57, 58, 59, 60, 186, 187, 188, 189, 190, 191, 192, 193, 194, 195, 196, 197, 198, 199, 200, 201] (by decide +kernel) (by decide +kernel)
set_option maxRecDepth 20000 in
theorem gX8_init_X5_init : GoodIn wsX8_init (wsX5_init) := ggX8_init_X5_init
set_option maxRecDepth 20000 in
theorem ggX8_init_X4_init : GoodIn wsX8_init wsX4_init := goodIn_r _ [63, 64, 2, 3, 38, 65, 66, 67, 68, 69, 202, 203, 204, 205, 206, 207, 208, 209] (by decide +kernel) (by decide +kernel)
set_option maxRecDepth 20000 in
theorem gX8_init_X4_init : GoodIn wsX8_init (wsX4_init) := ggX8_init_X4_init
set_option maxRecDepth 20000 in
theorem ggX8_init_X7_init : GoodIn wsX8_init wsX7_init := goodIn_r _ [72, 73, 2, 3, 38, 74, 36, 75, 76, 77, 210, 211, 212, 213, 214] (by decide +kernel) (by decide +kernel)
set_option maxRecDepth 20000 in
theorem gX8_init_X7_init : GoodIn wsX8_init (wsX7_init) := ggX8_init_X7_init
set_option maxRecDepth 20000 in
theorem ggX8_init_X6_init : GoodIn wsX8_init wsX6_init := goodIn_r _ [80, 81, 2, 3, 82, 83, 215, 216] (by decide +kernel) (by decide +kernel)
set_option maxRecDepth 20000 in
theorem gX8_init_X6_init : GoodIn wsX8_init (wsX6_init) := ggX8_init_X6_init
set_option maxRecDepth 20000 in
theorem ggX8_init_X1_init : GoodIn wsX8_init wsX1_init := goodIn_r _ [86, 87, 2, 3, 38, 88, 89, 217, 218, 219] (by decide +kernel) (by decide +kernel)
set_option maxRecDepth 20000 in
theorem gX8_init_X1_init : GoodIn wsX8_init (wsX1_init) := ggX8_init_X1_init
set_option maxRecDepth 20000 in
theorem ggX8_init_X8_start : GoodIn wsX8_init wsX8_start := goodIn_r _ [94, 7, 11, 24, 16, 20, 95, 96, 97, 6, 98, 99, 100, 101, 102, 39, 40, 37, 103, 104, 105, 106, 107, 108, 109, 110, 111, 112, 113, 114, 115, 116, 117, 118, 119, 120, 121, 122, 123, 124, 125, 93, 126, 127, 128, 129, 130, 131, 132, 133, 134, 135, 136, 10, 137, 138, 139, 140, 46, 141, 142, 143, 144, 23, 145, 77, 146, 147, 148, 149, 150, 151, 152, 74, 153, 154, 155, 156, 157, 15, 158, 159, 160, 161, 162, 19, 163, 164, 172, 173, 174, 175, 176, 177, 178, 179, 165, 166, 167, 168, 169, 170, 171, 180, 181, 182, 183, 184, 185, 210, 211, 212, 213, 214, 186, 187, 188, 189, 190, 191, 192, 193, 194, 195, 196, 197, 198, 199, 200, 201, 202, 203, 204, 205, 206, 207, 208, 209] (by decide +kernel) (by decide +kernel)
set_option maxRecDepth 20000 in
theorem gX8_init_X8_start : GoodIn wsX8_init (wsV RX8 65 RX8 yX8_start wsX8_start) := goodIn_app (goodIn_of _ (by decide +kernel)) ggX8_init_X8_start
theorem dX8_init_0 : decode cX8_init 0 = .ok (.aload_n 0, 1) := by decide +kernel
theorem dX8_init_1 : decode cX8_init 1 = .ok (.invokespecial 1, 3) := by decide +kernel
theorem dX8_init_4 : decode cX8_init 4 = .ok (.aload_n 0, 1) := by decide +kernel
theorem dX8_init_5 : decode cX8_init 5 = .ok (.new 7, 3) := by decide +kernel
theorem dX8_init_8 : decode cX8_init 8 = .ok (.dup, 1) := by decide +kernel
theorem dX8_init_9 : decode cX8_init 9 = .ok (.invokespecial 9, 3) := by decide +kernel
theorem dX8_init_12 : decode cX8_init 12 = .ok (.putfield 10, 3) := by decide +kernel
theorem dX8_init_15 : decode cX8_init 15 = .ok (.aload_n 0, 1) := by decide +kernel
theorem dX8_init_16 : decode cX8_init 16 = .ok (.new 16, 3) := by decide +kernel
theorem dX8_init_19 : decode cX8_init 19 = .ok (.dup, 1) := by decide +kernel
theorem dX8_init_20 : decode cX8_init 20 = .ok (.aload_n 0, 1) := by decide +kernel
theorem dX8_init_21 : decode cX8_init 21 = .ok (.getfield 10, 3) := by decide +kernel
theorem dX8_init_24 : decode cX8_init 24 = .ok (.invokespecial 18, 3) := by decide +kernel
theorem dX8_init_27 : decode cX8_init 27 = .ok (.putfield 21, 3) := by decide +kernel
theorem dX8_init_30 : decode cX8_init 30 = .ok (.aload_n 0, 1) := by decide +kernel
theorem dX8_init_31 : decode cX8_init 31 = .ok (.new 16, 3) := by decide +kernel
theorem dX8_init_34 : decode cX8_init 34 = .ok (.dup, 1) := by decide +kernel
theorem dX8_init_35 : decode cX8_init 35 = .ok (.aload_n 0, 1) := by decide +kernel
theorem dX8_init_36 : decode cX8_init 36 = .ok (.getfield 10, 3) := by decide +kernel
theorem dX8_init_39 : decode cX8_init 39 = .ok (.invokespecial 18, 3) := by decide +kernel
theorem dX8_init_42 : decode cX8_init 42 = .ok (.putfield 25, 3) := by decide +kernel
theorem dX8_init_45 : decode cX8_init 45 = .ok (.aload_n 0, 1) := by decide +kernel
theorem dX8_init_46 : decode cX8_init 46 = .ok (.new 28, 3) := by decide +kernel
theorem dX8_init_49 : decode cX8_init 49 = .ok (.dup, 1) := by decide +kernel
theorem dX8_init_50 : decode cX8_init 50 = .ok (.aload_n 0, 1) := by decide +kernel
theorem dX8_init_51 : decode cX8_init 51 = .ok (.getfield 10, 3) := by decide +kernel
theorem dX8_init_54 : decode cX8_init 54 = .ok (.invokespecial 30, 3) := by decide +kernel
theorem dX8_init_57 : decode cX8_init 57 = .ok (.putfield 31, 3) := by decide +kernel
theorem dX8_init_60 : decode cX8_init 60 = .ok (.aload_n 0, 1) := by decide +kernel
theorem dX8_init_61 : decode cX8_init 61 = .ok (.new 35, 3) := by decide +kernel
theorem dX8_init_64 : decode cX8_init 64 = .ok (.dup, 1) := by decide +kernel
theorem dX8_init_65 : decode cX8_init 65 = .ok (.aload_n 0, 1) := by decide +kernel
theorem dX8_init_66 : decode cX8_init 66 = .ok (.getfield 10, 3) := by decide +kernel
theorem dX8_init_69 : decode cX8_init 69 = .ok (.invokespecial 37, 3) := by decide +kernel
theorem dX8_init_72 : decode cX8_init 72 = .ok (.putfield 38, 3) := by decide +kernel
theorem dX8_init_75 : decode cX8_init 75 = .ok (.aload_n 0, 1) := by decide +kernel
theorem dX8_init_76 : decode cX8_init 76 = .ok (.new 42, 3) := by decide +kernel
theorem dX8_init_79 : decode cX8_init 79 = .ok (.dup, 1) := by decide +kernel
theorem dX8_init_80 : decode cX8_init 80 = .ok (.aload_n 0, 1) := by decide +kernel
theorem dX8_init_81 : decode cX8_init 81 = .ok (.getfield 10, 3) := by decide +kernel
theorem dX8_init_84 : decode cX8_init 84 = .ok (.invokespecial 44, 3) := by decide +kernel
theorem dX8_init_87 : decode cX8_init 87 = .ok (.putfield 45, 3) := by decide +kernel
theorem dX8_init_90 : decode cX8_init 90 = .ok (.aload_n 0, 1) := by decide +kernel
theorem dX8_init_91 : decode cX8_init 91 = .ok (.new 49, 3) := by decide +kernel
theorem dX8_init_94 : decode cX8_init 94 = .ok (.dup, 1) := by decide +kernel
theorem dX8_init_95 : decode cX8_init 95 = .ok (.aload_n 0, 1) := by decide +kernel
theorem dX8_init_96 : decode cX8_init 96 = .ok (.getfield 10, 3) := by decide +kernel
theorem dX8_init_99 : decode cX8_init 99 = .ok (.aload_n 0, 1) := by decide +kernel
theorem dX8_init_100 : decode cX8_init 100 = .ok (.getfield 38, 3) := by decide +kernel
theorem dX8_init_103 : decode cX8_init 103 = .ok (.invokespecial 51, 3) := by decide +kernel
theorem dX8_init_106 : decode cX8_init 106 = .ok (.putfield 54, 3) := by decide +kernel
theorem dX8_init_109 : decode cX8_init 109 = .ok (.aload_n 0, 1) := by decide +kernel
theorem dX8_init_110 : decode cX8_init 110 = .ok (.new 58, 3) := by decide +kernel
theorem dX8_init_113 : decode cX8_init 113 = .ok (.dup, 1) := by decide +kernel
theorem dX8_init_114 : decode cX8_init 114 = .ok (.aload_n 0, 1) := by decide +kernel
theorem dX8_init_115 : decode cX8_init 115 = .ok (.getfield 10, 3) := by decide +kernel
theorem dX8_init_118 : decode cX8_init 118 = .ok (.invokespecial 60, 3) := by decide +kernel
theorem dX8_init_121 : decode cX8_init 121 = .ok (.putfield 61, 3) := by decide +kernel
theorem dX8_init_124 : decode cX8_init 124 = .ok (.aload_n 0, 1) := by decide +kernel
theorem dX8_init_125 : decode cX8_init 125 = .ok (.iconst 2, 1) := by decide +kernel
theorem dX8_init_126 : decode cX8_init 126 = .ok (.iconst 2, 1) := by decide +kernel
theorem dX8_init_127 : decode cX8_init 127 = .ok (.invokevirtual 65, 3) := by decide +kernel
theorem dX8_init_130 : decode cX8_init 130 = .ok (.return_, 1) := by decide +kernel
set_option maxRecDepth 20000 in
theorem ggX8_start_X0_setUp : GoodIn wsX8_start wsX0_setUp := goodIn_r _ [10, 11, 12, 13, 14, 15, 16, 17, 18, 19, 20, 21, 22, 23, 24, 25, 26, 27, 9, 28, 29, 30, 31, 32, 33, 34, 35, 36, 37, 38, 39, 40, 41, 42, 43, 44, 45, 46, 47, 48, 49, 96, 97, 98, 99, 100, 101, 102] (by decide +kernel) (by decide +kernel)
set_option maxRecDepth 20000 in
theorem gX8_start_X0_setUp : GoodIn wsX8_start (wsV RX8 69 RX0 yX0_setUp wsX0_setUp) := goodIn_app (goodIn_of _ (by decide +kernel)) ggX8_start_X0_setUp
set_option maxRecDepth 20000 in
theorem ggX8_start_X2_clear : GoodIn wsX8_start wsX2_clear := goodIn_r _ [54, 55, 56, 57, 58, 59, 19, 20, 21, 103, 104, 105, 106, 107, 108] (by decide +kernel) (by decide +kernel)
set_option maxRecDepth 20000 in
theorem gX8_start_X2_clear : GoodIn wsX8_start (wsV RX8 72 RX2 yX2_clear wsX2_clear) := goodIn_app (goodIn_of _ (by decide +kernel)) ggX8_start_X2_clear
set_option maxRecDepth 20000 in
theorem ggX8_start_X7_setUp : GoodIn wsX8_start wsX7_setUp := goodIn_r _ [64, 65, 66, 67, 68, 69, 70, 71, 63, 72, 73, 74, 26, 27, 9, 28, 11, 12, 75, 19, 20, 21, 109, 110, 111, 112, 113, 96, 97, 98, 99, 100, 101, 102] (by decide +kernel) (by decide +kernel)
set_option maxRecDepth 20000 in
theorem gX8_start_X7_setUp : GoodIn wsX8_start (wsV RX8 75 RX7 yX7_setUp wsX7_setUp) := goodIn_app (goodIn_of _ (by decide +kernel)) ggX8_start_X7_setUp
set_option maxRecDepth 20000 in
theorem ggX8_start_X5_forget : GoodIn wsX8_start wsX5_forget := goodIn_r _ [80, 81, 114, 115, 116, 117, 118, 119, 120, 121, 122, 123, 124, 125, 126, 127, 128, 129] (by decide +kernel) (by decide +kernel)
set_option maxRecDepth 20000 in
theorem gX8_start_X5_forget : GoodIn wsX8_start (wsV RX8 77 RX5 yX5_forget wsX5_forget) := goodIn_app (goodIn_of _ (by decide +kernel)) ggX8_start_X5_forget
set_option maxRecDepth 20000 in
theorem ggX8_start_X4_forget : GoodIn wsX8_start wsX4_forget := goodIn_r _ [86, 87, 130, 131, 132, 133, 134, 135, 136, 137] (by decide +kernel) (by decide +kernel)
set_option maxRecDepth 20000 in
theorem gX8_start_X4_forget : GoodIn wsX8_start (wsV RX8 80 RX4 yX4_forget wsX4_forget) := goodIn_app (goodIn_of _ (by decide +kernel)) ggX8_start_X4_forget
theorem dX8_start_0 : decode cX8_start 0 = .ok (.aload_n 0, 1) := by decide +kernel
theorem dX8_start_1 : decode cX8_start 1 = .ok (.getfield 10, 3) := by decide +kernel
theorem dX8_start_4 : decode cX8_start 4 = .ok (.iload_n 1, 1) := by decide +kernel
theorem dX8_start_5 : decode cX8_start 5 = .ok (.iload_n 2, 1) := by decide +kernel
theorem dX8_start_6 : decode cX8_start 6 = .ok (.invokevirtual 69, 3) := by decide +kernel
theorem dX8_start_9 : decode cX8_start 9 = .ok (.aload_n 0, 1) := by decide +kernel
theorem dX8_start_10 : decode cX8_start 10 = .ok (.getfield 21, 3) := by decide +kernel
theorem dX8_start_13 : decode cX8_start 13 = .ok (.invokevirtual 72, 3) := by decide +kernel
theorem dX8_start_16 : decode cX8_start 16 = .ok (.aload_n 0, 1) := by decide +kernel
theorem dX8_start_17 : decode cX8_start 17 = .ok (.getfield 45, 3) := by decide +kernel
theorem dX8_start_20 : decode cX8_start 20 = .ok (.invokevirtual 75, 3) := by decide +kernel
theorem dX8_start_23 : decode cX8_start 23 = .ok (.aload_n 0, 1) := by decide +kernel
theorem dX8_start_24 : decode cX8_start 24 = .ok (.getfield 31, 3) := by decide +kernel
theorem dX8_start_27 : decode cX8_start 27 = .ok (.invokevirtual 77, 3) := by decide +kernel
theorem dX8_start_30 : decode cX8_start 30 = .ok (.aload_n 0, 1) := by decide +kernel
theorem dX8_start_31 : decode cX8_start 31 = .ok (.getfield 38, 3) := by decide +kernel
theorem dX8_start_34 : decode cX8_start 34 = .ok (.invokevirtual 80, 3) := by decide +kernel
theorem dX8_start_37 : decode cX8_start 37 = .ok (.return_, 1) := by decide +kernel
set_option maxRecDepth 20000 in
theorem ggX8_begin_X8_start : GoodIn wsX8_begin wsX8_start := goodIn_r _ [9, 3, 10, 11, 12, 13, 14, 15, 16, 17, 18, 19, 20, 21, 22, 23, 24, 25, 26, 27, 28, 29, 30, 31, 32, 33, 34, 35, 36, 37, 38, 39, 40, 41, 42, 43, 44, 45, 46, 47, 48, 8, 49, 50, 51, 52, 53, 54, 55, 56, 57, 58, 59, 60, 61, 62, 63, 64, 65, 66, 67, 68, 69, 70, 71, 72, 73, 74, 75, 76, 77, 78, 79, 80, 81, 82, 83, 84, 85, 86, 87, 88, 89, 90, 91, 92, 93, 94, 95, 96, 97, 98, 99, 100, 101, 102, 103, 104, 105, 106, 107, 108, 109, 110, 111, 112, 113, 114, 115, 116, 117, 118, 119, 120, 121, 122, 123, 124, 125, 126, 127, 128, 129, 130, 131, 132, 133, 134, 135, 136, 137, 138, 139, 140, 141, 142, 143, 144] (by decide +kernel) (by decide +kernel)
set_option maxRecDepth 20000 in
theorem gX8_begin_X8_start : GoodIn wsX8_begin (wsV RX8 65 RX8 yX8_start wsX8_start) := goodIn_app (goodIn_of _ (by decide +kernel)) ggX8_begin_X8_start
theorem dX8_begin_0 : decode cX8_begin 0 = .ok (.iload_n 1, 1) := by decide +kernel
theorem dX8_begin_1 : decode cX8_begin 1 = .ok (.iconst 1, 1) := by decide +kernel
theorem dX8_begin_2 : decode cX8_begin 2 = .ok (.if_icmp .lt 18, 3) := by decide +kernel
theorem dX8_begin_5 : decode cX8_begin 5 = .ok (.iload_n 1, 1) := by decide +kernel
theorem dX8_begin_6 : decode cX8_begin 6 = .ok (.iconst 4, 1) := by decide +kernel
theorem dX8_begin_7 : decode cX8_begin 7 = .ok (.if_icmp .gt 13, 3) := by decide +kernel
theorem dX8_begin_10 : decode cX8_begin 10 = .ok (.iload_n 2, 1) := by decide +kernel
theorem dX8_begin_11 : decode cX8_begin 11 = .ok (.iconst 1, 1) := by decide +kernel
theorem dX8_begin_12 : decode cX8_begin 12 = .ok (.if_icmp .lt 8, 3) := by decide +kernel
theorem dX8_begin_15 : decode cX8_begin 15 = .ok (.iload_n 2, 1) := by decide +kernel
theorem dX8_begin_16 : decode cX8_begin 16 = .ok (.iconst 4, 1) := by decide +kernel
theorem dX8_begin_17 : decode cX8_begin 17 = .ok (.if_icmp .le 13, 3) := by decide +kernel
theorem dX8_begin_20 : decode cX8_begin 20 = .ok (.new 81, 3) := by decide +kernel
theorem dX8_begin_23 : decode cX8_begin 23 = .ok (.dup, 1) := by decide +kernel
theorem dX8_begin_24 : decode cX8_begin 24 = .ok (.ldc 83, 2) := by decide +kernel
theorem dX8_begin_26 : decode cX8_begin 26 = .ok (.invokespecial 85, 3) := by decide +kernel
theorem dX8_begin_29 : decode cX8_begin 29 = .ok (.athrow, 1) := by decide +kernel
theorem dX8_begin_30 : decode cX8_begin 30 = .ok (.aload_n 0, 1) := by decide +kernel
theorem dX8_begin_31 : decode cX8_begin 31 = .ok (.iload_n 1, 1) := by decide +kernel
theorem dX8_begin_32 : decode cX8_begin 32 = .ok (.iload_n 2, 1) := by decide +kernel
theorem dX8_begin_33 : decode cX8_begin 33 = .ok (.invokevirtual 65, 3) := by decide +kernel
theorem dX8_begin_36 : decode cX8_begin 36 = .ok (.aload_n 0, 1) := by decide +kernel
theorem dX8_begin_37 : decode cX8_begin 37 = .ok (.getfield 10, 3) := by decide +kernel
theorem dX8_begin_40 : decode cX8_begin 40 = .ok (.getfield 88, 3) := by decide +kernel
theorem dX8_begin_43 : decode cX8_begin 43 = .ok (.ireturn, 1) := by decide +kernel
set_option maxRecDepth 20000 in
theorem ggX8_draw_X0_hasLine : GoodIn wsX8_draw wsX0_hasLine := goodIn_r _ [11, 12, 83, 84, 85, 86, 87, 88, 89] (by decide +kernel) (by decide +kernel)
set_option maxRecDepth 20000 in
theorem gX8_draw_X0_hasLine : GoodIn wsX8_draw (wsV RX8 92 RX0 yX0_hasLine wsX0_hasLine) := goodIn_app (goodIn_of _ (by decide +kernel)) ggX8_draw_X0_hasLine
set_option maxRecDepth 20000 in
theorem ggX8_draw_X8_isDrawn : GoodIn wsX8_draw wsX8_isDrawn := goodIn_r _ [17, 6, 18, 19, 20, 16, 21, 22, 23, 24, 75, 76, 77, 78, 79, 80, 81, 82, 90, 91, 92, 93, 94, 95] (by decide +kernel) (by decide +kernel)
set_option maxRecDepth 20000 in
theorem gX8_draw_X8_isDrawn : GoodIn wsX8_draw (wsV RX8 101 RX8 yX8_isDrawn wsX8_isDrawn) := goodIn_app (goodIn_of _ (by decide +kernel)) ggX8_draw_X8_isDrawn
set_option maxRecDepth 20000 in
theorem ggX8_draw_X2_make : GoodIn wsX8_draw wsX2_make := goodIn_r _ [29, 30, 31, 32, 33, 34, 23, 16, 24, 35, 36, 37, 38, 39, 40, 41, 10, 42, 43, 44, 45, 46, 47, 48, 49, 28, 50, 51, 52, 53, 54, 55, 56, 57, 58, 59, 60, 61, 62, 63, 64, 65, 66, 67, 68, 69, 70, 71, 72, 73, 74, 90, 91, 92, 93, 94, 95, 83, 84, 85, 86, 87, 88, 89] (by decide +kernel) (by decide +kernel)
set_option maxRecDepth 20000 in
theorem gX8_draw_X2_make : GoodIn wsX8_draw (wsV RX8 109 RX2 yX2_make wsX2_make) := goodIn_app (goodIn_of _ (by decide +kernel)) ggX8_draw_X2_make
theorem dX8_draw_0 : decode cX8_draw 0 = .ok (.aload_n 0, 1) := by decide +kernel
theorem dX8_draw_1 : decode cX8_draw 1 = .ok (.getfield 10, 3) := by decide +kernel
theorem dX8_draw_4 : decode cX8_draw 4 = .ok (.iload_n 1, 1) := by decide +kernel
theorem dX8_draw_5 : decode cX8_draw 5 = .ok (.invokevirtual 92, 3) := by decide +kernel
theorem dX8_draw_8 : decode cX8_draw 8 = .ok (.ifCond .ne 13, 3) := by decide +kernel
theorem dX8_draw_11 : decode cX8_draw 11 = .ok (.new 96, 3) := by decide +kernel
theorem dX8_draw_14 : decode cX8_draw 14 = .ok (.dup, 1) := by decide +kernel
theorem dX8_draw_15 : decode cX8_draw 15 = .ok (.ldc 98, 2) := by decide +kernel
theorem dX8_draw_17 : decode cX8_draw 17 = .ok (.invokespecial 100, 3) := by decide +kernel
theorem dX8_draw_20 : decode cX8_draw 20 = .ok (.athrow, 1) := by decide +kernel
theorem dX8_draw_21 : decode cX8_draw 21 = .ok (.aload_n 0, 1) := by decide +kernel
theorem dX8_draw_22 : decode cX8_draw 22 = .ok (.iload_n 1, 1) := by decide +kernel
theorem dX8_draw_23 : decode cX8_draw 23 = .ok (.invokevirtual 101, 3) := by decide +kernel
theorem dX8_draw_26 : decode cX8_draw 26 = .ok (.ifCond .eq 13, 3) := by decide +kernel
theorem dX8_draw_29 : decode cX8_draw 29 = .ok (.new 104, 3) := by decide +kernel
theorem dX8_draw_32 : decode cX8_draw 32 = .ok (.dup, 1) := by decide +kernel
theorem dX8_draw_33 : decode cX8_draw 33 = .ok (.ldc 106, 2) := by decide +kernel
theorem dX8_draw_35 : decode cX8_draw 35 = .ok (.invokespecial 108, 3) := by decide +kernel
theorem dX8_draw_38 : decode cX8_draw 38 = .ok (.athrow, 1) := by decide +kernel
theorem dX8_draw_39 : decode cX8_draw 39 = .ok (.aload_n 0, 1) := by decide +kernel
theorem dX8_draw_40 : decode cX8_draw 40 = .ok (.getfield 21, 3) := by decide +kernel
theorem dX8_draw_43 : decode cX8_draw 43 = .ok (.iload_n 1, 1) := by decide +kernel
theorem dX8_draw_44 : decode cX8_draw 44 = .ok (.invokevirtual 109, 3) := by decide +kernel
theorem dX8_draw_47 : decode cX8_draw 47 = .ok (.ireturn, 1) := by decide +kernel
set_option maxRecDepth 20000 in
theorem ggX8_undo_X2_takeBack : GoodIn wsX8_undo wsX2_takeBack := goodIn_r _ [9, 10, 11, 12, 13, 14, 15, 16, 17, 8, 18, 19, 20, 21, 22, 23, 24, 25, 26, 27, 28, 29, 30, 31, 32, 33, 34, 35, 36, 37, 38, 39, 40, 41, 42, 43, 44, 45, 46, 47, 48, 49, 50, 51, 52, 53, 54, 55, 56, 57, 58, 59, 60, 61, 62, 63, 64, 73, 74, 75, 76, 77, 78, 79, 80, 81, 82, 83, 84, 85] (by decide +kernel) (by decide +kernel)
set_option maxRecDepth 20000 in
theorem gX8_undo_X2_takeBack : GoodIn wsX8_undo (wsV RX8 118 RX2 yX2_takeBack wsX2_takeBack) := goodIn_app (goodIn_of _ (by decide +kernel)) ggX8_undo_X2_takeBack
theorem dX8_undo_0 : decode cX8_undo 0 = .ok (.aload_n 0, 1) := by decide +kernel
theorem dX8_undo_1 : decode cX8_undo 1 = .ok (.getfield 21, 3) := by decide +kernel
theorem dX8_undo_4 : decode cX8_undo 4 = .ok (.getfield 113, 3) := by decide +kernel
theorem dX8_undo_7 : decode cX8_undo 7 = .ok (.ifCond .ne 13, 3) := by decide +kernel
theorem dX8_undo_10 : decode cX8_undo 10 = .ok (.new 104, 3) := by decide +kernel
theorem dX8_undo_13 : decode cX8_undo 13 = .ok (.dup, 1) := by decide +kernel
theorem dX8_undo_14 : decode cX8_undo 14 = .ok (.ldc 116, 2) := by decide +kernel
theorem dX8_undo_16 : decode cX8_undo 16 = .ok (.invokespecial 108, 3) := by decide +kernel
theorem dX8_undo_19 : decode cX8_undo 19 = .ok (.athrow, 1) := by decide +kernel
theorem dX8_undo_20 : decode cX8_undo 20 = .ok (.aload_n 0, 1) := by decide +kernel
theorem dX8_undo_21 : decode cX8_undo 21 = .ok (.getfield 21, 3) := by decide +kernel
theorem dX8_undo_24 : decode cX8_undo 24 = .ok (.invokevirtual 118, 3) := by decide +kernel
theorem dX8_undo_27 : decode cX8_undo 27 = .ok (.ireturn, 1) := by decide +kernel
set_option maxRecDepth 20000 in
theorem ggX8_follow_X8_isStyle : GoodIn wsX8_follow wsX8_isStyle := goodIn_r _ [9] (by decide +kernel) (by decide +kernel)
set_option maxRecDepth 20000 in
theorem gX8_follow_X8_isStyle : GoodIn wsX8_follow (va_wsS RX8 122 yX8_isStyle wsX8_isStyle) := goodIn_app (goodIn_of _ (by decide +kernel)) ggX8_follow_X8_isStyle
set_option maxRecDepth 20000 in
theorem ggX8_follow_X6_choose : GoodIn wsX8_follow wsX6_choose := goodIn_r _ [14, 15, 16, 17, 18, 19, 20, 21, 22, 23, 24, 25, 8, 26, 27, 28, 29, 30, 31, 32, 33, 34, 35, 36, 37, 38, 39, 40, 41, 42, 43, 44, 45, 46, 47, 48, 49, 50, 51, 52, 53, 54, 55, 56, 57, 58, 59, 60, 61, 62, 63, 64, 65, 66, 67, 68, 69, 70, 71, 72, 73, 74, 75, 76, 77, 78, 79, 80, 81, 82, 83, 84, 85, 86, 87, 88, 89, 90, 91, 92, 93, 94, 95, 96, 97, 98, 99, 100, 101, 102, 103, 104, 105, 106, 107, 108, 109, 110, 111, 112, 113, 114, 115, 116, 117, 118, 119, 120, 121, 122, 123, 124, 125, 126, 127, 128, 129, 130, 131, 132, 13, 133, 134, 135, 136, 137, 138, 139, 140, 141, 142, 143, 144, 145, 146, 147, 148, 149, 150, 151, 152, 193, 194, 195, 196, 197, 198, 199, 200, 201, 202, 203, 204, 205, 206, 207, 208, 209] (by decide +kernel) (by decide +kernel)
set_option maxRecDepth 20000 in
theorem gX8_follow_X6_choose : GoodIn wsX8_follow (wsV RX8 131 RX6 yX6_choose wsX6_choose) := goodIn_app (goodIn_of _ (by decide +kernel)) ggX8_follow_X6_choose
set_option maxRecDepth 20000 in
theorem ggX8_follow_X2_make : GoodIn wsX8_follow wsX2_make := goodIn_r _ [157, 158, 159, 160, 161, 162, 25, 8, 26, 163, 64, 65, 66, 164, 75, 76, 21, 77, 78, 79, 72, 73, 165, 166, 167, 156, 168, 169, 170, 171, 172, 173, 174, 175, 176, 177, 119, 120, 121, 122, 123, 84, 24, 85, 86, 87, 178, 96, 97, 98, 99, 187, 188, 189, 190, 191, 192, 195, 196, 197, 198, 199, 200, 201] (by decide +kernel) (by decide +kernel)
set_option maxRecDepth 20000 in
theorem gX8_follow_X2_make : GoodIn wsX8_follow (wsV RX8 109 RX2 yX2_make wsX2_make) := goodIn_app (goodIn_of _ (by decide +kernel)) ggX8_follow_X2_make
theorem dX8_follow_0 : decode cX8_follow 0 = .ok (.iload_n 1, 1) := by decide +kernel
theorem dX8_follow_1 : decode cX8_follow 1 = .ok (.invokestatic 122, 3) := by decide +kernel
theorem dX8_follow_4 : decode cX8_follow 4 = .ok (.ifCond .eq 14, 3) := by decide +kernel
theorem dX8_follow_7 : decode cX8_follow 7 = .ok (.iload_n 2, 1) := by decide +kernel
theorem dX8_follow_8 : decode cX8_follow 8 = .ok (.iconst 1, 1) := by decide +kernel
theorem dX8_follow_9 : decode cX8_follow 9 = .ok (.if_icmp .lt 9, 3) := by decide +kernel
theorem dX8_follow_12 : decode cX8_follow 12 = .ok (.iload_n 2, 1) := by decide +kernel
theorem dX8_follow_13 : decode cX8_follow 13 = .ok (.bipush 40, 2) := by decide +kernel
theorem dX8_follow_15 : decode cX8_follow 15 = .ok (.if_icmp .le 13, 3) := by decide +kernel
theorem dX8_follow_18 : decode cX8_follow 18 = .ok (.new 81, 3) := by decide +kernel
theorem dX8_follow_21 : decode cX8_follow 21 = .ok (.dup, 1) := by decide +kernel
theorem dX8_follow_22 : decode cX8_follow 22 = .ok (.ldc 125, 2) := by decide +kernel
theorem dX8_follow_24 : decode cX8_follow 24 = .ok (.invokespecial 85, 3) := by decide +kernel
theorem dX8_follow_27 : decode cX8_follow 27 = .ok (.athrow, 1) := by decide +kernel
theorem dX8_follow_28 : decode cX8_follow 28 = .ok (.iconst 0, 1) := by decide +kernel
theorem dX8_follow_29 : decode cX8_follow 29 = .ok (.istore_n 3, 1) := by decide +kernel
theorem dX8_follow_30 : decode cX8_follow 30 = .ok (.iconst 0, 1) := by decide +kernel
theorem dX8_follow_31 : decode cX8_follow 31 = .ok (.istore 4, 2) := by decide +kernel
theorem dX8_follow_33 : decode cX8_follow 33 = .ok (.iload 4, 2) := by decide +kernel
theorem dX8_follow_35 : decode cX8_follow 35 = .ok (.iload_n 2, 1) := by decide +kernel
theorem dX8_follow_36 : decode cX8_follow 36 = .ok (.if_icmp .ge 48, 3) := by decide +kernel
theorem dX8_follow_39 : decode cX8_follow 39 = .ok (.aload_n 0, 1) := by decide +kernel
theorem dX8_follow_40 : decode cX8_follow 40 = .ok (.getfield 54, 3) := by decide +kernel
theorem dX8_follow_43 : decode cX8_follow 43 = .ok (.iload_n 1, 1) := by decide +kernel
theorem dX8_follow_44 : decode cX8_follow 44 = .ok (.aload_n 0, 1) := by decide +kernel
theorem dX8_follow_45 : decode cX8_follow 45 = .ok (.getfield 21, 3) := by decide +kernel
theorem dX8_follow_48 : decode cX8_follow 48 = .ok (.getfield 127, 3) := by decide +kernel
theorem dX8_follow_51 : decode cX8_follow 51 = .ok (.invokevirtual 131, 3) := by decide +kernel
theorem dX8_follow_54 : decode cX8_follow 54 = .ok (.istore 5, 2) := by decide +kernel
theorem dX8_follow_56 : decode cX8_follow 56 = .ok (.iload 5, 2) := by decide +kernel
theorem dX8_follow_58 : decode cX8_follow 58 = .ok (.iconst (-1), 1) := by decide +kernel
theorem dX8_follow_59 : decode cX8_follow 59 = .ok (.if_icmp .ne 6, 3) := by decide +kernel
theorem dX8_follow_62 : decode cX8_follow 62 = .ok (.goto 22, 3) := by decide +kernel
theorem dX8_follow_65 : decode cX8_follow 65 = .ok (.aload_n 0, 1) := by decide +kernel
theorem dX8_follow_66 : decode cX8_follow 66 = .ok (.getfield 21, 3) := by decide +kernel
theorem dX8_follow_69 : decode cX8_follow 69 = .ok (.iload 5, 2) := by decide +kernel
theorem dX8_follow_71 : decode cX8_follow 71 = .ok (.invokevirtual 109, 3) := by decide +kernel
theorem dX8_follow_74 : decode cX8_follow 74 = .ok (.pop, 1) := by decide +kernel
theorem dX8_follow_75 : decode cX8_follow 75 = .ok (.iinc 3 1, 3) := by decide +kernel
theorem dX8_follow_78 : decode cX8_follow 78 = .ok (.iinc 4 1, 3) := by decide +kernel
theorem dX8_follow_81 : decode cX8_follow 81 = .ok (.goto (-48), 3) := by decide +kernel
theorem dX8_follow_84 : decode cX8_follow 84 = .ok (.iload_n 3, 1) := by decide +kernel
theorem dX8_follow_85 : decode cX8_follow 85 = .ok (.ireturn, 1) := by decide +kernel
set_option maxRecDepth 20000 in
theorem ggX8_isDrawn_X8_contains : GoodIn wsX8_isDrawn wsX8_contains := goodIn_r _ [6, 7, 8, 5, 9] (by decide +kernel) (by decide +kernel)
set_option maxRecDepth 20000 in
theorem gX8_isDrawn_X8_contains : GoodIn wsX8_isDrawn (va_wsS RX8 135 yX8_contains wsX8_contains) := goodIn_app (goodIn_of _ (by decide +kernel)) ggX8_isDrawn_X8_contains
theorem dX8_isDrawn_0 : decode cX8_isDrawn 0 = .ok (.aload_n 0, 1) := by decide +kernel
theorem dX8_isDrawn_1 : decode cX8_isDrawn 1 = .ok (.getfield 21, 3) := by decide +kernel
theorem dX8_isDrawn_4 : decode cX8_isDrawn 4 = .ok (.getfield 127, 3) := by decide +kernel
theorem dX8_isDrawn_7 : decode cX8_isDrawn 7 = .ok (.iload_n 1, 1) := by decide +kernel
theorem dX8_isDrawn_8 : decode cX8_isDrawn 8 = .ok (.invokestatic 135, 3) := by decide +kernel
theorem dX8_isDrawn_11 : decode cX8_isDrawn 11 = .ok (.ireturn, 1) := by decide +kernel
theorem dX8_isStyle_0 : decode cX8_isStyle 0 = .ok (.iload_n 0, 1) := by decide +kernel
theorem dX8_isStyle_1 : decode cX8_isStyle 1 = .ok (.ifCond .lt 12, 3) := by decide +kernel
theorem dX8_isStyle_4 : decode cX8_isStyle 4 = .ok (.iload_n 0, 1) := by decide +kernel
theorem dX8_isStyle_5 : decode cX8_isStyle 5 = .ok (.iconst 2, 1) := by decide +kernel
theorem dX8_isStyle_6 : decode cX8_isStyle 6 = .ok (.if_icmp .gt 7, 3) := by decide +kernel
theorem dX8_isStyle_9 : decode cX8_isStyle 9 = .ok (.iconst 1, 1) := by decide +kernel
theorem dX8_isStyle_10 : decode cX8_isStyle 10 = .ok (.goto 4, 3) := by decide +kernel
theorem dX8_isStyle_13 : decode cX8_isStyle 13 = .ok (.iconst 0, 1) := by decide +kernel
theorem dX8_isStyle_14 : decode cX8_isStyle 14 = .ok (.ireturn, 1) := by decide +kernel
set_option maxRecDepth 20000 in
theorem ggX8_count_X0_completeBoxes : GoodIn wsX8_count wsX0_completeBoxes := goodIn_r _ [15, 16, 17, 18, 19, 14, 20, 21, 22, 23, 24, 25, 26, 136, 137, 138, 139, 140, 141, 142] (by decide +kernel) (by decide +kernel)
set_option maxRecDepth 20000 in
theorem gX8_count_X0_completeBoxes : GoodIn wsX8_count (wsV RX8 174 RX0 yX0_completeBoxes wsX0_completeBoxes) := goodIn_app (goodIn_of _ (by decide +kernel)) ggX8_count_X0_completeBoxes
set_option maxRecDepth 20000 in
theorem ggX8_count_X0_takingLines : GoodIn wsX8_count wsX0_takingLines := goodIn_r _ [30, 31, 32, 33, 14, 34, 16, 17, 18, 19, 20, 21, 22, 23, 24, 25, 26, 35, 36, 37, 38, 39, 40, 41, 136, 137, 138, 139, 140, 141, 142] (by decide +kernel) (by decide +kernel)
set_option maxRecDepth 20000 in
theorem gX8_count_X0_takingLines : GoodIn wsX8_count (wsV RX8 181 RX0 yX0_takingLines wsX0_takingLines) := goodIn_app (goodIn_of _ (by decide +kernel)) ggX8_count_X0_takingLines
set_option maxRecDepth 20000 in
theorem ggX8_count_J13_bitCount_95d88 : GoodIn wsX8_count wsJ13_bitCount_95d88 := goodIn_r _ [38, 39, 40, 41] (by decide +kernel) (by decide +kernel)
set_option maxRecDepth 20000 in
theorem gX8_count_J13_bitCount_95d88 : GoodIn wsX8_count (va_wsS RX8 185 yJ13_bitCount_95d88 wsJ13_bitCount_95d88) := goodIn_app (goodIn_of _ (by decide +kernel)) ggX8_count_J13_bitCount_95d88
set_option maxRecDepth 20000 in
theorem ggX8_count_X0_safeLines : GoodIn wsX8_count wsX0_safeLines := goodIn_r _ [46, 22, 31, 32, 33, 14, 34, 16, 17, 18, 19, 20, 21, 23, 24, 25, 26, 35, 36, 37, 38, 39, 40, 41, 47, 48, 49, 50, 51, 52, 53, 54, 136, 137, 138, 139, 140, 141, 142] (by decide +kernel) (by decide +kernel)
set_option maxRecDepth 20000 in
theorem gX8_count_X0_safeLines : GoodIn wsX8_count (wsV RX8 190 RX0 yX0_safeLines wsX0_safeLines) := goodIn_app (goodIn_of _ (by decide +kernel)) ggX8_count_X0_safeLines
set_option maxRecDepth 20000 in
theorem ggX8_count_X0_givingLines : GoodIn wsX8_count wsX0_givingLines := goodIn_r _ [58, 22, 31, 32, 33, 14, 34, 16, 17, 18, 19, 20, 21, 23, 24, 25, 26, 35, 36, 37, 38, 39, 40, 41, 136, 137, 138, 139, 140, 141, 142] (by decide +kernel) (by decide +kernel)
set_option maxRecDepth 20000 in
theorem gX8_count_X0_givingLines : GoodIn wsX8_count (wsV RX8 193 RX0 yX0_givingLines wsX0_givingLines) := goodIn_app (goodIn_of _ (by decide +kernel)) ggX8_count_X0_givingLines
set_option maxRecDepth 20000 in
theorem ggX8_count_X0_runOf : GoodIn wsX8_count wsX0_runOf := goodIn_r _ [62, 16, 17, 18, 19, 14, 20, 21, 22, 23, 24, 25, 26, 35, 36, 37, 38, 39, 40, 41, 63, 12, 13, 15, 136, 137, 138, 139, 140, 141, 142] (by decide +kernel) (by decide +kernel)
set_option maxRecDepth 20000 in
theorem gX8_count_X0_runOf : GoodIn wsX8_count (wsV RX8 196 RX0 yX0_runOf wsX0_runOf) := goodIn_app (goodIn_of _ (by decide +kernel)) ggX8_count_X0_runOf
set_option maxRecDepth 20000 in
theorem ggX8_count_X8_stringCount : GoodIn wsX8_count wsX8_stringCount := goodIn_r _ [67, 68, 3, 4, 69, 70, 71, 72, 73, 74, 75, 76, 77, 78, 79, 80, 81, 82, 83, 84, 85, 86, 87, 88, 89, 18, 19, 14, 20, 21, 22, 23, 24, 25, 26, 90, 91, 92, 93, 94, 95, 96, 36, 37, 38, 39, 40, 41, 97, 98, 99, 100, 101, 102, 103, 104, 105, 106, 107, 108, 109, 110, 111, 112, 113, 114, 115, 116, 117, 118, 119, 120, 121, 122, 123, 124, 125, 126, 127, 128, 129, 130, 131, 132, 133, 134, 135, 143, 144, 145, 146, 147, 148, 149, 150, 151, 152, 153, 154, 155, 156, 157, 158, 136, 137, 138, 139, 140, 141, 142] (by decide +kernel) (by decide +kernel)
set_option maxRecDepth 20000 in
theorem gX8_count_X8_stringCount : GoodIn wsX8_count (wsV RX8 199 RX8 yX8_stringCount wsX8_stringCount) := goodIn_app (goodIn_of _ (by decide +kernel)) ggX8_count_X8_stringCount
theorem dX8_count_0 : decode cX8_count 0 = .ok (.aload_n 0, 1) := by decide +kernel
theorem dX8_count_1 : decode cX8_count 1 = .ok (.getfield 21, 3) := by decide +kernel
theorem dX8_count_4 : decode cX8_count 4 = .ok (.getfield 127, 3) := by decide +kernel
theorem dX8_count_7 : decode cX8_count 7 = .ok (.lstore_n 2, 1) := by decide +kernel
theorem dX8_count_8 : decode cX8_count 8 = .ok (.iload_n 1, 1) := by decide +kernel
theorem dX8_count_9 : decode cX8_count 9 = .ok (.tableswitch 158 0 10 #[59, 67, 75, 83, 91, 100, 108, 120, 132, 144, 153], 59) := by decide +kernel
theorem dX8_count_68 : decode cX8_count 68 = .ok (.aload_n 0, 1) := by decide +kernel
theorem dX8_count_69 : decode cX8_count 69 = .ok (.getfield 10, 3) := by decide +kernel
theorem dX8_count_72 : decode cX8_count 72 = .ok (.getfield 168, 3) := by decide +kernel
theorem dX8_count_75 : decode cX8_count 75 = .ok (.ireturn, 1) := by decide +kernel
theorem dX8_count_76 : decode cX8_count 76 = .ok (.aload_n 0, 1) := by decide +kernel
theorem dX8_count_77 : decode cX8_count 77 = .ok (.getfield 10, 3) := by decide +kernel
theorem dX8_count_80 : decode cX8_count 80 = .ok (.getfield 171, 3) := by decide +kernel
theorem dX8_count_83 : decode cX8_count 83 = .ok (.ireturn, 1) := by decide +kernel
theorem dX8_count_84 : decode cX8_count 84 = .ok (.aload_n 0, 1) := by decide +kernel
theorem dX8_count_85 : decode cX8_count 85 = .ok (.getfield 10, 3) := by decide +kernel
theorem dX8_count_88 : decode cX8_count 88 = .ok (.getfield 88, 3) := by decide +kernel
theorem dX8_count_91 : decode cX8_count 91 = .ok (.ireturn, 1) := by decide +kernel
theorem dX8_count_92 : decode cX8_count 92 = .ok (.aload_n 0, 1) := by decide +kernel
theorem dX8_count_93 : decode cX8_count 93 = .ok (.getfield 21, 3) := by decide +kernel
theorem dX8_count_96 : decode cX8_count 96 = .ok (.getfield 113, 3) := by decide +kernel
theorem dX8_count_99 : decode cX8_count 99 = .ok (.ireturn, 1) := by decide +kernel
theorem dX8_count_100 : decode cX8_count 100 = .ok (.aload_n 0, 1) := by decide +kernel
theorem dX8_count_101 : decode cX8_count 101 = .ok (.getfield 10, 3) := by decide +kernel
theorem dX8_count_104 : decode cX8_count 104 = .ok (.lload_n 2, 1) := by decide +kernel
theorem dX8_count_105 : decode cX8_count 105 = .ok (.invokevirtual 174, 3) := by decide +kernel
theorem dX8_count_108 : decode cX8_count 108 = .ok (.ireturn, 1) := by decide +kernel
theorem dX8_count_109 : decode cX8_count 109 = .ok (.aload_n 0, 1) := by decide +kernel
theorem dX8_count_110 : decode cX8_count 110 = .ok (.getfield 21, 3) := by decide +kernel
theorem dX8_count_113 : decode cX8_count 113 = .ok (.getfield 178, 3) := by decide +kernel
theorem dX8_count_116 : decode cX8_count 116 = .ok (.ireturn, 1) := by decide +kernel
theorem dX8_count_117 : decode cX8_count 117 = .ok (.aload_n 0, 1) := by decide +kernel
theorem dX8_count_118 : decode cX8_count 118 = .ok (.getfield 10, 3) := by decide +kernel
theorem dX8_count_121 : decode cX8_count 121 = .ok (.lload_n 2, 1) := by decide +kernel
theorem dX8_count_122 : decode cX8_count 122 = .ok (.invokevirtual 181, 3) := by decide +kernel
theorem dX8_count_125 : decode cX8_count 125 = .ok (.invokestatic 185, 3) := by decide +kernel
theorem dX8_count_128 : decode cX8_count 128 = .ok (.ireturn, 1) := by decide +kernel
theorem dX8_count_129 : decode cX8_count 129 = .ok (.aload_n 0, 1) := by decide +kernel
theorem dX8_count_130 : decode cX8_count 130 = .ok (.getfield 10, 3) := by decide +kernel
theorem dX8_count_133 : decode cX8_count 133 = .ok (.lload_n 2, 1) := by decide +kernel
theorem dX8_count_134 : decode cX8_count 134 = .ok (.invokevirtual 190, 3) := by decide +kernel
theorem dX8_count_137 : decode cX8_count 137 = .ok (.invokestatic 185, 3) := by decide +kernel
theorem dX8_count_140 : decode cX8_count 140 = .ok (.ireturn, 1) := by decide +kernel
theorem dX8_count_141 : decode cX8_count 141 = .ok (.aload_n 0, 1) := by decide +kernel
theorem dX8_count_142 : decode cX8_count 142 = .ok (.getfield 10, 3) := by decide +kernel
theorem dX8_count_145 : decode cX8_count 145 = .ok (.lload_n 2, 1) := by decide +kernel
theorem dX8_count_146 : decode cX8_count 146 = .ok (.invokevirtual 193, 3) := by decide +kernel
theorem dX8_count_149 : decode cX8_count 149 = .ok (.invokestatic 185, 3) := by decide +kernel
theorem dX8_count_152 : decode cX8_count 152 = .ok (.ireturn, 1) := by decide +kernel
theorem dX8_count_153 : decode cX8_count 153 = .ok (.aload_n 0, 1) := by decide +kernel
theorem dX8_count_154 : decode cX8_count 154 = .ok (.getfield 10, 3) := by decide +kernel
theorem dX8_count_157 : decode cX8_count 157 = .ok (.lload_n 2, 1) := by decide +kernel
theorem dX8_count_158 : decode cX8_count 158 = .ok (.invokevirtual 196, 3) := by decide +kernel
theorem dX8_count_161 : decode cX8_count 161 = .ok (.ireturn, 1) := by decide +kernel
theorem dX8_count_162 : decode cX8_count 162 = .ok (.aload_n 0, 1) := by decide +kernel
theorem dX8_count_163 : decode cX8_count 163 = .ok (.invokevirtual 199, 3) := by decide +kernel
theorem dX8_count_166 : decode cX8_count 166 = .ok (.ireturn, 1) := by decide +kernel
theorem dX8_count_167 : decode cX8_count 167 = .ok (.new 81, 3) := by decide +kernel
theorem dX8_count_170 : decode cX8_count 170 = .ok (.dup, 1) := by decide +kernel
theorem dX8_count_171 : decode cX8_count 171 = .ok (.ldc 202, 2) := by decide +kernel
theorem dX8_count_173 : decode cX8_count 173 = .ok (.invokespecial 85, 3) := by decide +kernel
theorem dX8_count_176 : decode cX8_count 176 = .ok (.athrow, 1) := by decide +kernel
set_option maxRecDepth 20000 in
theorem ggX8_score_X2_scoreOf : GoodIn wsX8_score wsX2_scoreOf := goodIn_r _ [8, 9, 10, 11, 12, 13, 7, 14, 15, 16, 17, 18, 19, 28, 29, 30, 31, 32, 33, 34, 35, 36, 37, 38, 39, 40] (by decide +kernel) (by decide +kernel)
set_option maxRecDepth 20000 in
theorem gX8_score_X2_scoreOf : GoodIn wsX8_score (wsV RX8 206 RX2 yX2_scoreOf wsX2_scoreOf) := goodIn_app (goodIn_of _ (by decide +kernel)) ggX8_score_X2_scoreOf
theorem dX8_score_0 : decode cX8_score 0 = .ok (.iload_n 1, 1) := by decide +kernel
theorem dX8_score_1 : decode cX8_score 1 = .ok (.ifCond .eq 18, 3) := by decide +kernel
theorem dX8_score_4 : decode cX8_score 4 = .ok (.iload_n 1, 1) := by decide +kernel
theorem dX8_score_5 : decode cX8_score 5 = .ok (.iconst 1, 1) := by decide +kernel
theorem dX8_score_6 : decode cX8_score 6 = .ok (.if_icmp .eq 13, 3) := by decide +kernel
theorem dX8_score_9 : decode cX8_score 9 = .ok (.new 81, 3) := by decide +kernel
theorem dX8_score_12 : decode cX8_score 12 = .ok (.dup, 1) := by decide +kernel
theorem dX8_score_13 : decode cX8_score 13 = .ok (.ldc 204, 2) := by decide +kernel
theorem dX8_score_15 : decode cX8_score 15 = .ok (.invokespecial 85, 3) := by decide +kernel
theorem dX8_score_18 : decode cX8_score 18 = .ok (.athrow, 1) := by decide +kernel
theorem dX8_score_19 : decode cX8_score 19 = .ok (.aload_n 0, 1) := by decide +kernel
theorem dX8_score_20 : decode cX8_score 20 = .ok (.getfield 21, 3) := by decide +kernel
theorem dX8_score_23 : decode cX8_score 23 = .ok (.iload_n 1, 1) := by decide +kernel
theorem dX8_score_24 : decode cX8_score 24 = .ok (.invokevirtual 206, 3) := by decide +kernel
theorem dX8_score_27 : decode cX8_score 27 = .ok (.ireturn, 1) := by decide +kernel
set_option maxRecDepth 20000 in
theorem ggX8_kind_X0_hasLine : GoodIn wsX8_kind wsX0_hasLine := goodIn_r _ [10, 11, 71, 72, 73, 74, 75, 76, 77] (by decide +kernel) (by decide +kernel)
set_option maxRecDepth 20000 in
theorem gX8_kind_X0_hasLine : GoodIn wsX8_kind (wsV RX8 92 RX0 yX0_hasLine wsX0_hasLine) := goodIn_app (goodIn_of _ (by decide +kernel)) ggX8_kind_X0_hasLine
set_option maxRecDepth 20000 in
theorem ggX8_kind_X8_isDrawn : GoodIn wsX8_kind wsX8_isDrawn := goodIn_r _ [16, 4, 5, 17, 18, 15, 19, 20, 21, 22, 57, 58, 59, 60, 61, 62, 63, 64, 65, 66, 67, 68, 69, 70] (by decide +kernel) (by decide +kernel)
set_option maxRecDepth 20000 in
theorem gX8_kind_X8_isDrawn : GoodIn wsX8_kind (wsV RX8 101 RX8 yX8_isDrawn wsX8_isDrawn) := goodIn_app (goodIn_of _ (by decide +kernel)) ggX8_kind_X8_isDrawn
set_option maxRecDepth 20000 in
theorem ggX8_kind_X0_takingLines : GoodIn wsX8_kind wsX0_takingLines := goodIn_r _ [26, 27, 28, 29, 9, 30, 31, 32, 33, 34, 35, 36, 37, 38, 39, 40, 41, 42, 43, 44, 45, 46, 47, 48, 71, 72, 73, 74, 75, 76, 77] (by decide +kernel) (by decide +kernel)
set_option maxRecDepth 20000 in
theorem gX8_kind_X0_takingLines : GoodIn wsX8_kind (wsV RX8 181 RX0 yX0_takingLines wsX0_takingLines) := goodIn_app (goodIn_of _ (by decide +kernel)) ggX8_kind_X0_takingLines
set_option maxRecDepth 20000 in
theorem ggX8_kind_X8_contains : GoodIn wsX8_kind wsX8_contains := goodIn_r _ [19, 20, 21, 15, 22] (by decide +kernel) (by decide +kernel)
set_option maxRecDepth 20000 in
theorem gX8_kind_X8_contains : GoodIn wsX8_kind (va_wsS RX8 135 yX8_contains wsX8_contains) := goodIn_app (goodIn_of _ (by decide +kernel)) ggX8_kind_X8_contains
set_option maxRecDepth 20000 in
theorem ggX8_kind_X0_safeLines : GoodIn wsX8_kind wsX0_safeLines := goodIn_r _ [52, 37, 27, 28, 29, 9, 30, 31, 32, 33, 34, 35, 36, 38, 39, 40, 41, 42, 43, 44, 45, 46, 47, 48, 53, 54, 55, 56, 11, 21, 15, 22, 71, 72, 73, 74, 75, 76, 77] (by decide +kernel) (by decide +kernel)
set_option maxRecDepth 20000 in
theorem gX8_kind_X0_safeLines : GoodIn wsX8_kind (wsV RX8 190 RX0 yX0_safeLines wsX0_safeLines) := goodIn_app (goodIn_of _ (by decide +kernel)) ggX8_kind_X0_safeLines
theorem dX8_kind_0 : decode cX8_kind 0 = .ok (.aload_n 0, 1) := by decide +kernel
theorem dX8_kind_1 : decode cX8_kind 1 = .ok (.getfield 10, 3) := by decide +kernel
theorem dX8_kind_4 : decode cX8_kind 4 = .ok (.iload_n 1, 1) := by decide +kernel
theorem dX8_kind_5 : decode cX8_kind 5 = .ok (.invokevirtual 92, 3) := by decide +kernel
theorem dX8_kind_8 : decode cX8_kind 8 = .ok (.ifCond .ne 13, 3) := by decide +kernel
theorem dX8_kind_11 : decode cX8_kind 11 = .ok (.new 96, 3) := by decide +kernel
theorem dX8_kind_14 : decode cX8_kind 14 = .ok (.dup, 1) := by decide +kernel
theorem dX8_kind_15 : decode cX8_kind 15 = .ok (.ldc 98, 2) := by decide +kernel
theorem dX8_kind_17 : decode cX8_kind 17 = .ok (.invokespecial 100, 3) := by decide +kernel
theorem dX8_kind_20 : decode cX8_kind 20 = .ok (.athrow, 1) := by decide +kernel
theorem dX8_kind_21 : decode cX8_kind 21 = .ok (.aload_n 0, 1) := by decide +kernel
theorem dX8_kind_22 : decode cX8_kind 22 = .ok (.iload_n 1, 1) := by decide +kernel
theorem dX8_kind_23 : decode cX8_kind 23 = .ok (.invokevirtual 101, 3) := by decide +kernel
theorem dX8_kind_26 : decode cX8_kind 26 = .ok (.ifCond .eq 5, 3) := by decide +kernel
theorem dX8_kind_29 : decode cX8_kind 29 = .ok (.iconst 0, 1) := by decide +kernel
theorem dX8_kind_30 : decode cX8_kind 30 = .ok (.ireturn, 1) := by decide +kernel
theorem dX8_kind_31 : decode cX8_kind 31 = .ok (.aload_n 0, 1) := by decide +kernel
theorem dX8_kind_32 : decode cX8_kind 32 = .ok (.getfield 10, 3) := by decide +kernel
theorem dX8_kind_35 : decode cX8_kind 35 = .ok (.aload_n 0, 1) := by decide +kernel
theorem dX8_kind_36 : decode cX8_kind 36 = .ok (.getfield 21, 3) := by decide +kernel
theorem dX8_kind_39 : decode cX8_kind 39 = .ok (.getfield 127, 3) := by decide +kernel
theorem dX8_kind_42 : decode cX8_kind 42 = .ok (.invokevirtual 181, 3) := by decide +kernel
theorem dX8_kind_45 : decode cX8_kind 45 = .ok (.iload_n 1, 1) := by decide +kernel
theorem dX8_kind_46 : decode cX8_kind 46 = .ok (.invokestatic 135, 3) := by decide +kernel
theorem dX8_kind_49 : decode cX8_kind 49 = .ok (.ifCond .eq 5, 3) := by decide +kernel
theorem dX8_kind_52 : decode cX8_kind 52 = .ok (.iconst 1, 1) := by decide +kernel
theorem dX8_kind_53 : decode cX8_kind 53 = .ok (.ireturn, 1) := by decide +kernel
theorem dX8_kind_54 : decode cX8_kind 54 = .ok (.aload_n 0, 1) := by decide +kernel
theorem dX8_kind_55 : decode cX8_kind 55 = .ok (.getfield 10, 3) := by decide +kernel
theorem dX8_kind_58 : decode cX8_kind 58 = .ok (.aload_n 0, 1) := by decide +kernel
theorem dX8_kind_59 : decode cX8_kind 59 = .ok (.getfield 21, 3) := by decide +kernel
theorem dX8_kind_62 : decode cX8_kind 62 = .ok (.getfield 127, 3) := by decide +kernel
theorem dX8_kind_65 : decode cX8_kind 65 = .ok (.invokevirtual 190, 3) := by decide +kernel
theorem dX8_kind_68 : decode cX8_kind 68 = .ok (.iload_n 1, 1) := by decide +kernel
theorem dX8_kind_69 : decode cX8_kind 69 = .ok (.invokestatic 135, 3) := by decide +kernel
theorem dX8_kind_72 : decode cX8_kind 72 = .ok (.ifCond .eq 7, 3) := by decide +kernel
theorem dX8_kind_75 : decode cX8_kind 75 = .ok (.iconst 2, 1) := by decide +kernel
theorem dX8_kind_76 : decode cX8_kind 76 = .ok (.goto 4, 3) := by decide +kernel
theorem dX8_kind_79 : decode cX8_kind 79 = .ok (.iconst 3, 1) := by decide +kernel
theorem dX8_kind_80 : decode cX8_kind 80 = .ok (.ireturn, 1) := by decide +kernel
set_option maxRecDepth 20000 in
theorem ggX8_price_X0_hasLine : GoodIn wsX8_price wsX0_hasLine := goodIn_r _ [12, 13, 65, 66, 67, 68, 69, 70, 71] (by decide +kernel) (by decide +kernel)
set_option maxRecDepth 20000 in
theorem gX8_price_X0_hasLine : GoodIn wsX8_price (wsV RX8 92 RX0 yX0_hasLine wsX0_hasLine) := goodIn_app (goodIn_of _ (by decide +kernel)) ggX8_price_X0_hasLine
set_option maxRecDepth 20000 in
theorem ggX8_price_X8_isDrawn : GoodIn wsX8_price wsX8_isDrawn := goodIn_r _ [18, 6, 7, 19, 20, 17, 21, 22, 23, 24, 51, 52, 53, 54, 55, 56, 57, 58, 59, 60, 61, 62, 63, 64] (by decide +kernel) (by decide +kernel)
set_option maxRecDepth 20000 in
theorem gX8_price_X8_isDrawn : GoodIn wsX8_price (wsV RX8 101 RX8 yX8_isDrawn wsX8_isDrawn) := goodIn_app (goodIn_of _ (by decide +kernel)) ggX8_price_X8_isDrawn
set_option maxRecDepth 20000 in
theorem ggX8_price_X8_bit : GoodIn wsX8_price wsX8_bit := goodIn_r _ [24] (by decide +kernel) (by decide +kernel)
set_option maxRecDepth 20000 in
theorem gX8_price_X8_bit : GoodIn wsX8_price (va_wsS RX8 215 yX8_bit wsX8_bit) := goodIn_app (goodIn_of _ (by decide +kernel)) ggX8_price_X8_bit
set_option maxRecDepth 20000 in
theorem ggX8_price_X0_runOf : GoodIn wsX8_price wsX0_runOf := goodIn_r _ [28, 29, 30, 31, 32, 11, 33, 34, 35, 36, 37, 38, 39, 40, 41, 42, 43, 44, 45, 46, 47, 48, 49, 50, 65, 66, 67, 68, 69, 70, 71] (by decide +kernel) (by decide +kernel)
set_option maxRecDepth 20000 in
theorem gX8_price_X0_runOf : GoodIn wsX8_price (wsV RX8 196 RX0 yX0_runOf wsX0_runOf) := goodIn_app (goodIn_of _ (by decide +kernel)) ggX8_price_X0_runOf
theorem dX8_price_0 : decode cX8_price 0 = .ok (.aload_n 0, 1) := by decide +kernel
theorem dX8_price_1 : decode cX8_price 1 = .ok (.getfield 10, 3) := by decide +kernel
theorem dX8_price_4 : decode cX8_price 4 = .ok (.iload_n 1, 1) := by decide +kernel
theorem dX8_price_5 : decode cX8_price 5 = .ok (.invokevirtual 92, 3) := by decide +kernel
theorem dX8_price_8 : decode cX8_price 8 = .ok (.ifCond .ne 13, 3) := by decide +kernel
theorem dX8_price_11 : decode cX8_price 11 = .ok (.new 96, 3) := by decide +kernel
theorem dX8_price_14 : decode cX8_price 14 = .ok (.dup, 1) := by decide +kernel
theorem dX8_price_15 : decode cX8_price 15 = .ok (.ldc 98, 2) := by decide +kernel
theorem dX8_price_17 : decode cX8_price 17 = .ok (.invokespecial 100, 3) := by decide +kernel
theorem dX8_price_20 : decode cX8_price 20 = .ok (.athrow, 1) := by decide +kernel
theorem dX8_price_21 : decode cX8_price 21 = .ok (.aload_n 0, 1) := by decide +kernel
theorem dX8_price_22 : decode cX8_price 22 = .ok (.iload_n 1, 1) := by decide +kernel
theorem dX8_price_23 : decode cX8_price 23 = .ok (.invokevirtual 101, 3) := by decide +kernel
theorem dX8_price_26 : decode cX8_price 26 = .ok (.ifCond .eq 13, 3) := by decide +kernel
theorem dX8_price_29 : decode cX8_price 29 = .ok (.new 104, 3) := by decide +kernel
theorem dX8_price_32 : decode cX8_price 32 = .ok (.dup, 1) := by decide +kernel
theorem dX8_price_33 : decode cX8_price 33 = .ok (.ldc 213, 2) := by decide +kernel
theorem dX8_price_35 : decode cX8_price 35 = .ok (.invokespecial 108, 3) := by decide +kernel
theorem dX8_price_38 : decode cX8_price 38 = .ok (.athrow, 1) := by decide +kernel
theorem dX8_price_39 : decode cX8_price 39 = .ok (.aload_n 0, 1) := by decide +kernel
theorem dX8_price_40 : decode cX8_price 40 = .ok (.getfield 10, 3) := by decide +kernel
theorem dX8_price_43 : decode cX8_price 43 = .ok (.aload_n 0, 1) := by decide +kernel
theorem dX8_price_44 : decode cX8_price 44 = .ok (.getfield 21, 3) := by decide +kernel
theorem dX8_price_47 : decode cX8_price 47 = .ok (.getfield 127, 3) := by decide +kernel
theorem dX8_price_50 : decode cX8_price 50 = .ok (.iload_n 1, 1) := by decide +kernel
theorem dX8_price_51 : decode cX8_price 51 = .ok (.invokestatic 215, 3) := by decide +kernel
theorem dX8_price_54 : decode cX8_price 54 = .ok (.lor, 1) := by decide +kernel
theorem dX8_price_55 : decode cX8_price 55 = .ok (.invokevirtual 196, 3) := by decide +kernel
theorem dX8_price_58 : decode cX8_price 58 = .ok (.ireturn, 1) := by decide +kernel
set_option maxRecDepth 20000 in
theorem ggX8_drawn_X2_moveAt : GoodIn wsX8_drawn wsX2_moveAt := goodIn_r _ [9, 10, 11, 12, 13, 14, 23, 24, 25, 26, 27, 28] (by decide +kernel) (by decide +kernel)
set_option maxRecDepth 20000 in
theorem gX8_drawn_X2_moveAt : GoodIn wsX8_drawn (wsV RX8 221 RX2 yX2_moveAt wsX2_moveAt) := goodIn_app (goodIn_of _ (by decide +kernel)) ggX8_drawn_X2_moveAt
theorem dX8_drawn_0 : decode cX8_drawn 0 = .ok (.iload_n 1, 1) := by decide +kernel
theorem dX8_drawn_1 : decode cX8_drawn 1 = .ok (.ifCond .lt 14, 3) := by decide +kernel
theorem dX8_drawn_4 : decode cX8_drawn 4 = .ok (.iload_n 1, 1) := by decide +kernel
theorem dX8_drawn_5 : decode cX8_drawn 5 = .ok (.aload_n 0, 1) := by decide +kernel
theorem dX8_drawn_6 : decode cX8_drawn 6 = .ok (.getfield 21, 3) := by decide +kernel
theorem dX8_drawn_9 : decode cX8_drawn 9 = .ok (.getfield 113, 3) := by decide +kernel
theorem dX8_drawn_12 : decode cX8_drawn 12 = .ok (.if_icmp .lt 13, 3) := by decide +kernel
theorem dX8_drawn_15 : decode cX8_drawn 15 = .ok (.new 96, 3) := by decide +kernel
theorem dX8_drawn_18 : decode cX8_drawn 18 = .ok (.dup, 1) := by decide +kernel
theorem dX8_drawn_19 : decode cX8_drawn 19 = .ok (.ldc 219, 2) := by decide +kernel
theorem dX8_drawn_21 : decode cX8_drawn 21 = .ok (.invokespecial 100, 3) := by decide +kernel
theorem dX8_drawn_24 : decode cX8_drawn 24 = .ok (.athrow, 1) := by decide +kernel
theorem dX8_drawn_25 : decode cX8_drawn 25 = .ok (.aload_n 0, 1) := by decide +kernel
theorem dX8_drawn_26 : decode cX8_drawn 26 = .ok (.getfield 21, 3) := by decide +kernel
theorem dX8_drawn_29 : decode cX8_drawn 29 = .ok (.iload_n 1, 1) := by decide +kernel
theorem dX8_drawn_30 : decode cX8_drawn 30 = .ok (.invokevirtual 221, 3) := by decide +kernel
theorem dX8_drawn_33 : decode cX8_drawn 33 = .ok (.ireturn, 1) := by decide +kernel
set_option maxRecDepth 20000 in
theorem ggX8_owner_X0_hasBox : GoodIn wsX8_owner wsX0_hasBox := goodIn_r _ [9, 10, 29, 30, 31, 32, 33, 34, 35] (by decide +kernel) (by decide +kernel)
set_option maxRecDepth 20000 in
theorem gX8_owner_X0_hasBox : GoodIn wsX8_owner (wsV RX8 224 RX0 yX0_hasBox wsX0_hasBox) := goodIn_app (goodIn_of _ (by decide +kernel)) ggX8_owner_X0_hasBox
set_option maxRecDepth 20000 in
theorem ggX8_owner_X2_ownerOf : GoodIn wsX8_owner wsX2_ownerOf := goodIn_r _ [15, 16, 17, 18, 19, 20, 36, 37, 38, 39, 40, 41] (by decide +kernel) (by decide +kernel)
set_option maxRecDepth 20000 in
theorem gX8_owner_X2_ownerOf : GoodIn wsX8_owner (wsV RX8 229 RX2 yX2_ownerOf wsX2_ownerOf) := goodIn_app (goodIn_of _ (by decide +kernel)) ggX8_owner_X2_ownerOf
theorem dX8_owner_0 : decode cX8_owner 0 = .ok (.aload_n 0, 1) := by decide +kernel
theorem dX8_owner_1 : decode cX8_owner 1 = .ok (.getfield 10, 3) := by decide +kernel
theorem dX8_owner_4 : decode cX8_owner 4 = .ok (.iload_n 1, 1) := by decide +kernel
theorem dX8_owner_5 : decode cX8_owner 5 = .ok (.invokevirtual 224, 3) := by decide +kernel
theorem dX8_owner_8 : decode cX8_owner 8 = .ok (.ifCond .ne 13, 3) := by decide +kernel
theorem dX8_owner_11 : decode cX8_owner 11 = .ok (.new 96, 3) := by decide +kernel
theorem dX8_owner_14 : decode cX8_owner 14 = .ok (.dup, 1) := by decide +kernel
theorem dX8_owner_15 : decode cX8_owner 15 = .ok (.ldc 227, 2) := by decide +kernel
theorem dX8_owner_17 : decode cX8_owner 17 = .ok (.invokespecial 100, 3) := by decide +kernel
theorem dX8_owner_20 : decode cX8_owner 20 = .ok (.athrow, 1) := by decide +kernel
theorem dX8_owner_21 : decode cX8_owner 21 = .ok (.aload_n 0, 1) := by decide +kernel
theorem dX8_owner_22 : decode cX8_owner 22 = .ok (.getfield 21, 3) := by decide +kernel
theorem dX8_owner_25 : decode cX8_owner 25 = .ok (.iload_n 1, 1) := by decide +kernel
theorem dX8_owner_26 : decode cX8_owner 26 = .ok (.invokevirtual 229, 3) := by decide +kernel
theorem dX8_owner_29 : decode cX8_owner 29 = .ok (.ireturn, 1) := by decide +kernel
set_option maxRecDepth 20000 in
theorem ggX8_openSides_X0_hasBox : GoodIn wsX8_openSides wsX0_hasBox := goodIn_r _ [10, 11, 43, 44, 45, 46, 47, 48, 49] (by decide +kernel) (by decide +kernel)
set_option maxRecDepth 20000 in
theorem gX8_openSides_X0_hasBox : GoodIn wsX8_openSides (wsV RX8 224 RX0 yX0_hasBox wsX0_hasBox) := goodIn_app (goodIn_of _ (by decide +kernel)) ggX8_openSides_X0_hasBox
set_option maxRecDepth 20000 in
theorem ggX8_openSides_X0_openAround : GoodIn wsX8_openSides wsX0_openAround := goodIn_r _ [15, 16, 17, 18, 19, 20, 21, 43, 44, 45, 46, 47, 48, 49] (by decide +kernel) (by decide +kernel)
set_option maxRecDepth 20000 in
theorem gX8_openSides_X0_openAround : GoodIn wsX8_openSides (wsV RX8 232 RX0 yX0_openAround wsX0_openAround) := goodIn_app (goodIn_of _ (by decide +kernel)) ggX8_openSides_X0_openAround
set_option maxRecDepth 20000 in
theorem ggX8_openSides_J13_bitCount_95d88 : GoodIn wsX8_openSides wsJ13_bitCount_95d88 := goodIn_r _ [25, 26, 27, 28] (by decide +kernel) (by decide +kernel)
set_option maxRecDepth 20000 in
theorem gX8_openSides_J13_bitCount_95d88 : GoodIn wsX8_openSides (va_wsS RX8 185 yJ13_bitCount_95d88 wsJ13_bitCount_95d88) := goodIn_app (goodIn_of _ (by decide +kernel)) ggX8_openSides_J13_bitCount_95d88
theorem dX8_openSides_0 : decode cX8_openSides 0 = .ok (.aload_n 0, 1) := by decide +kernel
theorem dX8_openSides_1 : decode cX8_openSides 1 = .ok (.getfield 10, 3) := by decide +kernel
theorem dX8_openSides_4 : decode cX8_openSides 4 = .ok (.iload_n 1, 1) := by decide +kernel
theorem dX8_openSides_5 : decode cX8_openSides 5 = .ok (.invokevirtual 224, 3) := by decide +kernel
theorem dX8_openSides_8 : decode cX8_openSides 8 = .ok (.ifCond .ne 13, 3) := by decide +kernel
theorem dX8_openSides_11 : decode cX8_openSides 11 = .ok (.new 96, 3) := by decide +kernel
theorem dX8_openSides_14 : decode cX8_openSides 14 = .ok (.dup, 1) := by decide +kernel
theorem dX8_openSides_15 : decode cX8_openSides 15 = .ok (.ldc 227, 2) := by decide +kernel
theorem dX8_openSides_17 : decode cX8_openSides 17 = .ok (.invokespecial 100, 3) := by decide +kernel
theorem dX8_openSides_20 : decode cX8_openSides 20 = .ok (.athrow, 1) := by decide +kernel
theorem dX8_openSides_21 : decode cX8_openSides 21 = .ok (.aload_n 0, 1) := by decide +kernel
theorem dX8_openSides_22 : decode cX8_openSides 22 = .ok (.getfield 10, 3) := by decide +kernel
theorem dX8_openSides_25 : decode cX8_openSides 25 = .ok (.aload_n 0, 1) := by decide +kernel
theorem dX8_openSides_26 : decode cX8_openSides 26 = .ok (.getfield 21, 3) := by decide +kernel
theorem dX8_openSides_29 : decode cX8_openSides 29 = .ok (.getfield 127, 3) := by decide +kernel
theorem dX8_openSides_32 : decode cX8_openSides 32 = .ok (.iload_n 1, 1) := by decide +kernel
theorem dX8_openSides_33 : decode cX8_openSides 33 = .ok (.invokevirtual 232, 3) := by decide +kernel
theorem dX8_openSides_36 : decode cX8_openSides 36 = .ok (.invokestatic 185, 3) := by decide +kernel
theorem dX8_openSides_39 : decode cX8_openSides 39 = .ok (.ireturn, 1) := by decide +kernel
set_option maxRecDepth 20000 in
theorem ggX8_safeMoves_X0_safeLines : GoodIn wsX8_safeMoves wsX0_safeLines := goodIn_r _ [8, 9, 10, 11, 12, 7, 13, 14, 15, 16, 17, 18, 19, 20, 21, 22, 23, 24, 25, 26, 27, 28, 29, 30, 31, 32, 33, 34, 35, 36, 37, 38, 58, 59, 60, 61, 62, 63, 64] (by decide +kernel) (by decide +kernel)
set_option maxRecDepth 20000 in
theorem gX8_safeMoves_X0_safeLines : GoodIn wsX8_safeMoves (wsV RX8 190 RX0 yX0_safeLines wsX0_safeLines) := goodIn_app (goodIn_of _ (by decide +kernel)) ggX8_safeMoves_X0_safeLines
set_option maxRecDepth 20000 in
theorem ggX8_safeMoves_X8_lowestOf : GoodIn wsX8_safeMoves wsX8_lowestOf := goodIn_r _ [41, 42, 25, 26, 27, 28, 29, 30] (by decide +kernel) (by decide +kernel)
set_option maxRecDepth 20000 in
theorem gX8_safeMoves_X8_lowestOf : GoodIn wsX8_safeMoves (va_wsS RX8 236 yX8_lowestOf wsX8_lowestOf) := goodIn_app (goodIn_of _ (by decide +kernel)) ggX8_safeMoves_X8_lowestOf
set_option maxRecDepth 20000 in
theorem ggX8_safeMoves_X8_bit : GoodIn wsX8_safeMoves wsX8_bit := goodIn_r _ [38] (by decide +kernel) (by decide +kernel)
set_option maxRecDepth 20000 in
theorem gX8_safeMoves_X8_bit : GoodIn wsX8_safeMoves (va_wsS RX8 215 yX8_bit wsX8_bit) := goodIn_app (goodIn_of _ (by decide +kernel)) ggX8_safeMoves_X8_bit
theorem dX8_safeMoves_0 : decode cX8_safeMoves 0 = .ok (.aload_n 0, 1) := by decide +kernel
theorem dX8_safeMoves_1 : decode cX8_safeMoves 1 = .ok (.getfield 21, 3) := by decide +kernel
theorem dX8_safeMoves_4 : decode cX8_safeMoves 4 = .ok (.getfield 127, 3) := by decide +kernel
theorem dX8_safeMoves_7 : decode cX8_safeMoves 7 = .ok (.lstore_n 1, 1) := by decide +kernel
theorem dX8_safeMoves_8 : decode cX8_safeMoves 8 = .ok (.iconst 0, 1) := by decide +kernel
theorem dX8_safeMoves_9 : decode cX8_safeMoves 9 = .ok (.istore_n 3, 1) := by decide +kernel
theorem dX8_safeMoves_10 : decode cX8_safeMoves 10 = .ok (.iconst 0, 1) := by decide +kernel
theorem dX8_safeMoves_11 : decode cX8_safeMoves 11 = .ok (.istore 4, 2) := by decide +kernel
theorem dX8_safeMoves_13 : decode cX8_safeMoves 13 = .ok (.iload 4, 2) := by decide +kernel
theorem dX8_safeMoves_15 : decode cX8_safeMoves 15 = .ok (.bipush 40, 2) := by decide +kernel
theorem dX8_safeMoves_17 : decode cX8_safeMoves 17 = .ok (.if_icmp .ge 42, 3) := by decide +kernel
theorem dX8_safeMoves_20 : decode cX8_safeMoves 20 = .ok (.aload_n 0, 1) := by decide +kernel
theorem dX8_safeMoves_21 : decode cX8_safeMoves 21 = .ok (.getfield 10, 3) := by decide +kernel
theorem dX8_safeMoves_24 : decode cX8_safeMoves 24 = .ok (.lload_n 1, 1) := by decide +kernel
theorem dX8_safeMoves_25 : decode cX8_safeMoves 25 = .ok (.invokevirtual 190, 3) := by decide +kernel
theorem dX8_safeMoves_28 : decode cX8_safeMoves 28 = .ok (.invokestatic 236, 3) := by decide +kernel
theorem dX8_safeMoves_31 : decode cX8_safeMoves 31 = .ok (.istore 5, 2) := by decide +kernel
theorem dX8_safeMoves_33 : decode cX8_safeMoves 33 = .ok (.iload 5, 2) := by decide +kernel
theorem dX8_safeMoves_35 : decode cX8_safeMoves 35 = .ok (.iconst (-1), 1) := by decide +kernel
theorem dX8_safeMoves_36 : decode cX8_safeMoves 36 = .ok (.if_icmp .ne 6, 3) := by decide +kernel
theorem dX8_safeMoves_39 : decode cX8_safeMoves 39 = .ok (.goto 20, 3) := by decide +kernel
theorem dX8_safeMoves_42 : decode cX8_safeMoves 42 = .ok (.lload_n 1, 1) := by decide +kernel
theorem dX8_safeMoves_43 : decode cX8_safeMoves 43 = .ok (.iload 5, 2) := by decide +kernel
theorem dX8_safeMoves_45 : decode cX8_safeMoves 45 = .ok (.invokestatic 215, 3) := by decide +kernel
theorem dX8_safeMoves_48 : decode cX8_safeMoves 48 = .ok (.lor, 1) := by decide +kernel
theorem dX8_safeMoves_49 : decode cX8_safeMoves 49 = .ok (.lstore_n 1, 1) := by decide +kernel
theorem dX8_safeMoves_50 : decode cX8_safeMoves 50 = .ok (.iinc 3 1, 3) := by decide +kernel
theorem dX8_safeMoves_53 : decode cX8_safeMoves 53 = .ok (.iinc 4 1, 3) := by decide +kernel
theorem dX8_safeMoves_56 : decode cX8_safeMoves 56 = .ok (.goto (-43), 3) := by decide +kernel
theorem dX8_safeMoves_59 : decode cX8_safeMoves 59 = .ok (.iload_n 3, 1) := by decide +kernel
theorem dX8_safeMoves_60 : decode cX8_safeMoves 60 = .ok (.ireturn, 1) := by decide +kernel
set_option maxRecDepth 20000 in
theorem ggX8_stringOf_X0_hasBox : GoodIn wsX8_stringOf wsX0_hasBox := goodIn_r _ [11, 12, 98, 99, 100, 101, 102, 103, 104] (by decide +kernel) (by decide +kernel)
set_option maxRecDepth 20000 in
theorem gX8_stringOf_X0_hasBox : GoodIn wsX8_stringOf (wsV RX8 224 RX0 yX0_hasBox wsX0_hasBox) := goodIn_app (goodIn_of _ (by decide +kernel)) ggX8_stringOf_X0_hasBox
set_option maxRecDepth 20000 in
theorem ggX8_stringOf_X5_find : GoodIn wsX8_stringOf wsX5_find := goodIn_r _ [17, 18, 19, 20, 21, 22, 23, 24, 25, 26, 16, 27, 28, 29, 30, 31, 32, 33, 34, 10, 35, 36, 37, 38, 39, 40, 41, 42, 43, 44, 45, 46, 47, 48, 49, 50, 51, 52, 53, 54, 55, 56, 57, 58, 59, 60, 61, 62, 63, 64, 65, 66, 67, 68, 69, 70, 71, 72, 73, 74, 75, 76, 77, 78, 79, 105, 106, 107, 108, 109, 110, 111, 112, 113, 114, 115, 116, 117, 118, 119, 120, 98, 99, 100, 101, 102, 103, 104] (by decide +kernel) (by decide +kernel)
set_option maxRecDepth 20000 in
theorem gX8_stringOf_X5_find : GoodIn wsX8_stringOf (wsV RX8 239 RX5 yX5_find wsX5_find) := goodIn_app (goodIn_of _ (by decide +kernel)) ggX8_stringOf_X5_find
set_option maxRecDepth 20000 in
theorem ggX8_stringOf_X5_numberAt : GoodIn wsX8_stringOf wsX5_numberAt := goodIn_r _ [83, 31, 60, 61, 40, 62, 105, 106, 107, 108, 109, 110, 111, 112, 113, 114, 115, 116, 117, 118, 119, 120] (by decide +kernel) (by decide +kernel)
set_option maxRecDepth 20000 in
theorem gX8_stringOf_X5_numberAt : GoodIn wsX8_stringOf (wsV RX8 243 RX5 yX5_numberAt wsX5_numberAt) := goodIn_app (goodIn_of _ (by decide +kernel)) ggX8_stringOf_X5_numberAt
theorem dX8_stringOf_0 : decode cX8_stringOf 0 = .ok (.aload_n 0, 1) := by decide +kernel
theorem dX8_stringOf_1 : decode cX8_stringOf 1 = .ok (.getfield 10, 3) := by decide +kernel
theorem dX8_stringOf_4 : decode cX8_stringOf 4 = .ok (.iload_n 1, 1) := by decide +kernel
theorem dX8_stringOf_5 : decode cX8_stringOf 5 = .ok (.invokevirtual 224, 3) := by decide +kernel
theorem dX8_stringOf_8 : decode cX8_stringOf 8 = .ok (.ifCond .ne 13, 3) := by decide +kernel
theorem dX8_stringOf_11 : decode cX8_stringOf 11 = .ok (.new 96, 3) := by decide +kernel
theorem dX8_stringOf_14 : decode cX8_stringOf 14 = .ok (.dup, 1) := by decide +kernel
theorem dX8_stringOf_15 : decode cX8_stringOf 15 = .ok (.ldc 227, 2) := by decide +kernel
theorem dX8_stringOf_17 : decode cX8_stringOf 17 = .ok (.invokespecial 100, 3) := by decide +kernel
theorem dX8_stringOf_20 : decode cX8_stringOf 20 = .ok (.athrow, 1) := by decide +kernel
theorem dX8_stringOf_21 : decode cX8_stringOf 21 = .ok (.aload_n 0, 1) := by decide +kernel
theorem dX8_stringOf_22 : decode cX8_stringOf 22 = .ok (.getfield 31, 3) := by decide +kernel
theorem dX8_stringOf_25 : decode cX8_stringOf 25 = .ok (.aload_n 0, 1) := by decide +kernel
theorem dX8_stringOf_26 : decode cX8_stringOf 26 = .ok (.getfield 21, 3) := by decide +kernel
theorem dX8_stringOf_29 : decode cX8_stringOf 29 = .ok (.getfield 127, 3) := by decide +kernel
theorem dX8_stringOf_32 : decode cX8_stringOf 32 = .ok (.invokevirtual 239, 3) := by decide +kernel
theorem dX8_stringOf_35 : decode cX8_stringOf 35 = .ok (.aload_n 0, 1) := by decide +kernel
theorem dX8_stringOf_36 : decode cX8_stringOf 36 = .ok (.getfield 31, 3) := by decide +kernel
theorem dX8_stringOf_39 : decode cX8_stringOf 39 = .ok (.iload_n 1, 1) := by decide +kernel
theorem dX8_stringOf_40 : decode cX8_stringOf 40 = .ok (.invokevirtual 243, 3) := by decide +kernel
theorem dX8_stringOf_43 : decode cX8_stringOf 43 = .ok (.ireturn, 1) := by decide +kernel
set_option maxRecDepth 20000 in
theorem ggX8_string_X8_stringCount : GoodIn wsX8_string wsX8_stringCount := goodIn_r _ [10, 5, 11, 12, 13, 14, 15, 16, 17, 18, 19, 20, 21, 22, 23, 24, 25, 26, 27, 28, 29, 30, 31, 32, 33, 34, 35, 36, 37, 38, 39, 40, 41, 42, 43, 44, 45, 46, 47, 48, 49, 50, 51, 52, 53, 54, 55, 56, 57, 58, 59, 60, 61, 62, 63, 64, 65, 66, 67, 68, 69, 70, 71, 72, 73, 74, 75, 76, 77, 78, 79, 80, 81, 86, 87, 88, 89, 90, 91, 92, 93, 94, 95, 96, 97, 98, 99, 100, 101, 102, 103, 104, 105, 106, 107, 108, 109, 110, 111, 112, 113, 114, 115, 116, 117, 118, 119, 120, 121, 122] (by decide +kernel) (by decide +kernel)
set_option maxRecDepth 20000 in
theorem gX8_string_X8_stringCount : GoodIn wsX8_string (wsV RX8 199 RX8 yX8_stringCount wsX8_stringCount) := goodIn_app (goodIn_of _ (by decide +kernel)) ggX8_string_X8_stringCount
set_option maxRecDepth 20000 in
theorem ggX8_string_X5_propertyOf : GoodIn wsX8_string wsX5_propertyOf := goodIn_r _ [85, 69, 73, 70, 71, 30, 62, 63, 42, 64, 61, 41, 43, 50, 51, 52, 53, 54, 55, 56, 100, 101, 102, 103, 104, 105, 106, 107, 108, 109, 110, 111, 112, 113, 114, 115] (by decide +kernel) (by decide +kernel)
set_option maxRecDepth 20000 in
theorem gX8_string_X5_propertyOf : GoodIn wsX8_string (wsV RX8 250 RX5 yX5_propertyOf wsX5_propertyOf) := goodIn_app (goodIn_of _ (by decide +kernel)) ggX8_string_X5_propertyOf
theorem dX8_string_0 : decode cX8_string 0 = .ok (.iload_n 1, 1) := by decide +kernel
theorem dX8_string_1 : decode cX8_string 1 = .ok (.ifCond .lt 11, 3) := by decide +kernel
theorem dX8_string_4 : decode cX8_string 4 = .ok (.iload_n 1, 1) := by decide +kernel
theorem dX8_string_5 : decode cX8_string 5 = .ok (.aload_n 0, 1) := by decide +kernel
theorem dX8_string_6 : decode cX8_string 6 = .ok (.invokevirtual 199, 3) := by decide +kernel
theorem dX8_string_9 : decode cX8_string 9 = .ok (.if_icmp .lt 13, 3) := by decide +kernel
theorem dX8_string_12 : decode cX8_string 12 = .ok (.new 96, 3) := by decide +kernel
theorem dX8_string_15 : decode cX8_string 15 = .ok (.dup, 1) := by decide +kernel
theorem dX8_string_16 : decode cX8_string 16 = .ok (.ldc 246, 2) := by decide +kernel
theorem dX8_string_18 : decode cX8_string 18 = .ok (.invokespecial 100, 3) := by decide +kernel
theorem dX8_string_21 : decode cX8_string 21 = .ok (.athrow, 1) := by decide +kernel
theorem dX8_string_22 : decode cX8_string 22 = .ok (.iload_n 2, 1) := by decide +kernel
theorem dX8_string_23 : decode cX8_string 23 = .ok (.ifCond .lt 8, 3) := by decide +kernel
theorem dX8_string_26 : decode cX8_string 26 = .ok (.iload_n 2, 1) := by decide +kernel
theorem dX8_string_27 : decode cX8_string 27 = .ok (.iconst 4, 1) := by decide +kernel
theorem dX8_string_28 : decode cX8_string 28 = .ok (.if_icmp .le 13, 3) := by decide +kernel
theorem dX8_string_31 : decode cX8_string 31 = .ok (.new 81, 3) := by decide +kernel
theorem dX8_string_34 : decode cX8_string 34 = .ok (.dup, 1) := by decide +kernel
theorem dX8_string_35 : decode cX8_string 35 = .ok (.ldc 248, 2) := by decide +kernel
theorem dX8_string_37 : decode cX8_string 37 = .ok (.invokespecial 85, 3) := by decide +kernel
theorem dX8_string_40 : decode cX8_string 40 = .ok (.athrow, 1) := by decide +kernel
theorem dX8_string_41 : decode cX8_string 41 = .ok (.aload_n 0, 1) := by decide +kernel
theorem dX8_string_42 : decode cX8_string 42 = .ok (.getfield 31, 3) := by decide +kernel
theorem dX8_string_45 : decode cX8_string 45 = .ok (.iload_n 1, 1) := by decide +kernel
theorem dX8_string_46 : decode cX8_string 46 = .ok (.iload_n 2, 1) := by decide +kernel
theorem dX8_string_47 : decode cX8_string 47 = .ok (.invokevirtual 250, 3) := by decide +kernel
theorem dX8_string_50 : decode cX8_string 50 = .ok (.ireturn, 1) := by decide +kernel
set_option maxRecDepth 20000 in
theorem ggX8_control_X5_find : GoodIn wsX8_control wsX5_find := goodIn_r _ [10, 11, 12, 13, 14, 15, 16, 17, 18, 19, 9, 20, 21, 22, 23, 24, 25, 26, 27, 28, 29, 30, 31, 32, 33, 34, 35, 36, 37, 38, 39, 40, 41, 42, 43, 44, 45, 46, 47, 48, 49, 50, 51, 52, 53, 54, 55, 56, 57, 58, 59, 60, 61, 62, 63, 64, 65, 66, 67, 68, 69, 70, 71, 72, 73, 114, 115, 116, 117, 118, 119, 120, 121, 122, 123, 124, 125, 126, 127, 128, 129, 130, 131, 132, 133, 134, 135, 136] (by decide +kernel) (by decide +kernel)
set_option maxRecDepth 20000 in
theorem gX8_control_X5_find : GoodIn wsX8_control (wsV RX8 239 RX5 yX5_find wsX5_find) := goodIn_app (goodIn_of _ (by decide +kernel)) ggX8_control_X5_find
set_option maxRecDepth 20000 in
theorem ggX8_control_X5_summaryOf : GoodIn wsX8_control wsX5_summaryOf := goodIn_r _ [77, 21, 15, 78, 79, 80, 9, 81, 14, 65, 54, 55, 34, 56, 82, 83, 84, 85, 86, 87, 88, 89, 62, 90, 91, 92, 93, 61, 94, 95, 96, 28, 97, 98, 99, 114, 115, 116, 117, 118, 119, 120, 121, 122, 123, 124, 125, 126, 127, 128, 129, 130, 131, 132, 133, 134, 135, 136] (by decide +kernel) (by decide +kernel)
set_option maxRecDepth 20000 in
theorem gX8_control_X5_summaryOf : GoodIn wsX8_control (wsV RX8 256 RX5 yX5_summaryOf wsX5_summaryOf) := goodIn_app (goodIn_of _ (by decide +kernel)) ggX8_control_X5_summaryOf
theorem dX8_control_0 : decode cX8_control 0 = .ok (.iload_n 1, 1) := by decide +kernel
theorem dX8_control_1 : decode cX8_control 1 = .ok (.ifCond .lt 8, 3) := by decide +kernel
theorem dX8_control_4 : decode cX8_control 4 = .ok (.iload_n 1, 1) := by decide +kernel
theorem dX8_control_5 : decode cX8_control 5 = .ok (.iconst 5, 1) := by decide +kernel
theorem dX8_control_6 : decode cX8_control 6 = .ok (.if_icmp .le 13, 3) := by decide +kernel
theorem dX8_control_9 : decode cX8_control 9 = .ok (.new 81, 3) := by decide +kernel
theorem dX8_control_12 : decode cX8_control 12 = .ok (.dup, 1) := by decide +kernel
theorem dX8_control_13 : decode cX8_control 13 = .ok (.ldc 254, 2) := by decide +kernel
theorem dX8_control_15 : decode cX8_control 15 = .ok (.invokespecial 85, 3) := by decide +kernel
theorem dX8_control_18 : decode cX8_control 18 = .ok (.athrow, 1) := by decide +kernel
theorem dX8_control_19 : decode cX8_control 19 = .ok (.aload_n 0, 1) := by decide +kernel
theorem dX8_control_20 : decode cX8_control 20 = .ok (.getfield 31, 3) := by decide +kernel
theorem dX8_control_23 : decode cX8_control 23 = .ok (.aload_n 0, 1) := by decide +kernel
theorem dX8_control_24 : decode cX8_control 24 = .ok (.getfield 21, 3) := by decide +kernel
theorem dX8_control_27 : decode cX8_control 27 = .ok (.getfield 127, 3) := by decide +kernel
theorem dX8_control_30 : decode cX8_control 30 = .ok (.invokevirtual 239, 3) := by decide +kernel
theorem dX8_control_33 : decode cX8_control 33 = .ok (.aload_n 0, 1) := by decide +kernel
theorem dX8_control_34 : decode cX8_control 34 = .ok (.getfield 31, 3) := by decide +kernel
theorem dX8_control_37 : decode cX8_control 37 = .ok (.iload_n 1, 1) := by decide +kernel
theorem dX8_control_38 : decode cX8_control 38 = .ok (.invokevirtual 256, 3) := by decide +kernel
theorem dX8_control_41 : decode cX8_control 41 = .ok (.ireturn, 1) := by decide +kernel
set_option maxRecDepth 20000 in
theorem ggX8_prediction_X8_stringCount : GoodIn wsX8_prediction wsX8_stringCount := goodIn_r _ [8, 3, 9, 10, 11, 12, 13, 14, 15, 16, 17, 18, 19, 20, 21, 22, 23, 24, 25, 26, 27, 28, 29, 30, 31, 32, 33, 34, 35, 36, 37, 38, 39, 40, 41, 42, 43, 44, 45, 46, 47, 48, 49, 50, 51, 52, 53, 54, 55, 56, 57, 58, 59, 60, 61, 62, 63, 64, 65, 66, 67, 68, 69, 70, 71, 72, 73, 74, 75, 76, 77, 78, 79, 105, 106, 107, 108, 109, 110, 111, 112, 113, 114, 115, 116, 117, 118, 119, 120, 121, 122, 123, 124, 125, 126, 127, 128, 129, 130, 131, 132, 133, 134, 135, 136, 137, 138, 139, 140, 141] (by decide +kernel) (by decide +kernel)
set_option maxRecDepth 20000 in
theorem gX8_prediction_X8_stringCount : GoodIn wsX8_prediction (wsV RX8 199 RX8 yX8_stringCount wsX8_stringCount) := goodIn_app (goodIn_of _ (by decide +kernel)) ggX8_prediction_X8_stringCount
set_option maxRecDepth 20000 in
theorem ggX8_prediction_X5_predict : GoodIn wsX8_prediction wsX5_predict := goodIn_r _ [83, 19, 84, 85, 86, 87, 15, 88, 20, 89, 90, 91, 92, 93, 45, 46, 40, 47, 94, 95, 96, 97, 60, 61, 62, 98, 99, 100, 101, 67, 71, 102, 103, 104, 119, 120, 121, 122, 123, 124, 125, 126, 127, 128, 129, 130, 131, 132, 133, 134] (by decide +kernel) (by decide +kernel)
set_option maxRecDepth 20000 in
theorem gX8_prediction_X5_predict : GoodIn wsX8_prediction (wsV RX8 261 RX5 yX5_predict wsX5_predict) := goodIn_app (goodIn_of _ (by decide +kernel)) ggX8_prediction_X5_predict
theorem dX8_prediction_0 : decode cX8_prediction 0 = .ok (.aload_n 0, 1) := by decide +kernel
theorem dX8_prediction_1 : decode cX8_prediction 1 = .ok (.invokevirtual 199, 3) := by decide +kernel
theorem dX8_prediction_4 : decode cX8_prediction 4 = .ok (.bipush 10, 2) := by decide +kernel
theorem dX8_prediction_6 : decode cX8_prediction 6 = .ok (.if_icmp .le 14, 3) := by decide +kernel
theorem dX8_prediction_9 : decode cX8_prediction 9 = .ok (.new 104, 3) := by decide +kernel
theorem dX8_prediction_12 : decode cX8_prediction 12 = .ok (.dup, 1) := by decide +kernel
theorem dX8_prediction_13 : decode cX8_prediction 13 = .ok (.ldc_w 259, 3) := by decide +kernel
theorem dX8_prediction_16 : decode cX8_prediction 16 = .ok (.invokespecial 108, 3) := by decide +kernel
theorem dX8_prediction_19 : decode cX8_prediction 19 = .ok (.athrow, 1) := by decide +kernel
theorem dX8_prediction_20 : decode cX8_prediction 20 = .ok (.aload_n 0, 1) := by decide +kernel
theorem dX8_prediction_21 : decode cX8_prediction 21 = .ok (.getfield 31, 3) := by decide +kernel
theorem dX8_prediction_24 : decode cX8_prediction 24 = .ok (.invokevirtual 261, 3) := by decide +kernel
theorem dX8_prediction_27 : decode cX8_prediction 27 = .ok (.ireturn, 1) := by decide +kernel
set_option maxRecDepth 20000 in
theorem ggX8_stringCount_X5_find : GoodIn wsX8_stringCount wsX5_find := goodIn_r _ [9, 10, 11, 12, 13, 14, 15, 16, 17, 18, 8, 19, 20, 21, 22, 23, 24, 25, 26, 27, 28, 29, 30, 31, 32, 33, 34, 35, 36, 37, 38, 39, 40, 41, 42, 43, 44, 45, 46, 47, 48, 49, 50, 51, 52, 53, 54, 55, 56, 57, 58, 59, 60, 61, 62, 63, 64, 65, 66, 67, 68, 69, 70, 71, 72, 87, 88, 89, 90, 91, 92, 93, 94, 95, 96, 97, 98, 99, 100, 101, 102, 103, 104, 105, 106, 107, 108, 109] (by decide +kernel) (by decide +kernel)
set_option maxRecDepth 20000 in
theorem gX8_stringCount_X5_find : GoodIn wsX8_stringCount (wsV RX8 239 RX5 yX5_find wsX5_find) := goodIn_app (goodIn_of _ (by decide +kernel)) ggX8_stringCount_X5_find
theorem dX8_stringCount_0 : decode cX8_stringCount 0 = .ok (.aload_n 0, 1) := by decide +kernel
theorem dX8_stringCount_1 : decode cX8_stringCount 1 = .ok (.getfield 31, 3) := by decide +kernel
theorem dX8_stringCount_4 : decode cX8_stringCount 4 = .ok (.aload_n 0, 1) := by decide +kernel
theorem dX8_stringCount_5 : decode cX8_stringCount 5 = .ok (.getfield 21, 3) := by decide +kernel
theorem dX8_stringCount_8 : decode cX8_stringCount 8 = .ok (.getfield 127, 3) := by decide +kernel
theorem dX8_stringCount_11 : decode cX8_stringCount 11 = .ok (.invokevirtual 239, 3) := by decide +kernel
theorem dX8_stringCount_14 : decode cX8_stringCount 14 = .ok (.aload_n 0, 1) := by decide +kernel
theorem dX8_stringCount_15 : decode cX8_stringCount 15 = .ok (.getfield 31, 3) := by decide +kernel
theorem dX8_stringCount_18 : decode cX8_stringCount 18 = .ok (.getfield 264, 3) := by decide +kernel
theorem dX8_stringCount_21 : decode cX8_stringCount 21 = .ok (.ireturn, 1) := by decide +kernel
set_option maxRecDepth 20000 in
theorem ggX8_outcome_X8_openLineCount : GoodIn wsX8_outcome wsX8_openLineCount := goodIn_r _ [11, 4, 12, 5, 13, 106, 107, 108, 109, 110, 111, 112, 113, 120, 121, 122, 123, 124, 125, 126, 114, 115, 116, 117, 118, 119] (by decide +kernel) (by decide +kernel)
set_option maxRecDepth 20000 in
theorem gX8_outcome_X8_openLineCount : GoodIn wsX8_outcome (wsV RX8 267 RX8 yX8_openLineCount wsX8_openLineCount) := goodIn_app (goodIn_of _ (by decide +kernel)) ggX8_outcome_X8_openLineCount
set_option maxRecDepth 20000 in
theorem ggX8_outcome_X0_openLines : GoodIn wsX8_outcome wsX0_openLines := goodIn_r _ [18, 19, 20, 21, 10, 22, 120, 121, 122, 123, 124, 125, 126] (by decide +kernel) (by decide +kernel)
set_option maxRecDepth 20000 in
theorem gX8_outcome_X0_openLines : GoodIn wsX8_outcome (wsV RX8 272 RX0 yX0_openLines wsX0_openLines) := goodIn_app (goodIn_of _ (by decide +kernel)) ggX8_outcome_X0_openLines
set_option maxRecDepth 20000 in
theorem ggX8_outcome_X4_bestOf : GoodIn wsX8_outcome wsX4_bestOf := goodIn_r _ [27, 28, 29, 30, 31, 26, 32, 33, 34, 35, 36, 37, 38, 39, 40, 41, 42, 43, 44, 45, 46, 47, 48, 49, 50, 51, 52, 10, 53, 54, 55, 56, 57, 58, 59, 60, 61, 62, 63, 64, 65, 66, 67, 68, 69, 70, 71, 17, 72, 73, 74, 75, 76, 77, 78, 79, 80, 81, 82, 83, 84, 85, 86, 87, 88, 89, 21, 22, 90, 91, 92, 93, 94, 95, 96, 97, 98, 99, 100, 101, 102, 103, 104, 105, 127, 128, 129, 130, 131, 132, 133, 134, 120, 121, 122, 123, 124, 125, 126] (by decide +kernel) (by decide +kernel)
set_option maxRecDepth 20000 in
theorem gX8_outcome_X4_bestOf : GoodIn wsX8_outcome (wsV RX8 275 RX4 yX4_bestOf wsX4_bestOf) := goodIn_app (goodIn_of _ (by decide +kernel)) ggX8_outcome_X4_bestOf
theorem dX8_outcome_0 : decode cX8_outcome 0 = .ok (.aload_n 0, 1) := by decide +kernel
theorem dX8_outcome_1 : decode cX8_outcome 1 = .ok (.invokevirtual 267, 3) := by decide +kernel
theorem dX8_outcome_4 : decode cX8_outcome 4 = .ok (.bipush 12, 2) := by decide +kernel
theorem dX8_outcome_6 : decode cX8_outcome 6 = .ok (.if_icmp .le 14, 3) := by decide +kernel
theorem dX8_outcome_9 : decode cX8_outcome 9 = .ok (.new 104, 3) := by decide +kernel
theorem dX8_outcome_12 : decode cX8_outcome 12 = .ok (.dup, 1) := by decide +kernel
theorem dX8_outcome_13 : decode cX8_outcome 13 = .ok (.ldc_w 270, 3) := by decide +kernel
theorem dX8_outcome_16 : decode cX8_outcome 16 = .ok (.invokespecial 108, 3) := by decide +kernel
theorem dX8_outcome_19 : decode cX8_outcome 19 = .ok (.athrow, 1) := by decide +kernel
theorem dX8_outcome_20 : decode cX8_outcome 20 = .ok (.aload_n 0, 1) := by decide +kernel
theorem dX8_outcome_21 : decode cX8_outcome 21 = .ok (.getfield 38, 3) := by decide +kernel
theorem dX8_outcome_24 : decode cX8_outcome 24 = .ok (.aload_n 0, 1) := by decide +kernel
theorem dX8_outcome_25 : decode cX8_outcome 25 = .ok (.getfield 10, 3) := by decide +kernel
theorem dX8_outcome_28 : decode cX8_outcome 28 = .ok (.aload_n 0, 1) := by decide +kernel
theorem dX8_outcome_29 : decode cX8_outcome 29 = .ok (.getfield 21, 3) := by decide +kernel
theorem dX8_outcome_32 : decode cX8_outcome 32 = .ok (.getfield 127, 3) := by decide +kernel
theorem dX8_outcome_35 : decode cX8_outcome 35 = .ok (.invokevirtual 272, 3) := by decide +kernel
theorem dX8_outcome_38 : decode cX8_outcome 38 = .ok (.invokevirtual 275, 3) := by decide +kernel
theorem dX8_outcome_41 : decode cX8_outcome 41 = .ok (.ireturn, 1) := by decide +kernel
set_option maxRecDepth 20000 in
theorem ggX8_worth_X0_hasLine : GoodIn wsX8_worth wsX0_hasLine := goodIn_r _ [13, 14, 131, 132, 133, 134, 135, 136, 137] (by decide +kernel) (by decide +kernel)
set_option maxRecDepth 20000 in
theorem gX8_worth_X0_hasLine : GoodIn wsX8_worth (wsV RX8 92 RX0 yX0_hasLine wsX0_hasLine) := goodIn_app (goodIn_of _ (by decide +kernel)) ggX8_worth_X0_hasLine
set_option maxRecDepth 20000 in
theorem ggX8_worth_X8_isDrawn : GoodIn wsX8_worth wsX8_isDrawn := goodIn_r _ [19, 7, 8, 20, 21, 18, 22, 23, 24, 25, 117, 118, 119, 120, 121, 122, 123, 124, 125, 126, 127, 128, 129, 130] (by decide +kernel) (by decide +kernel)
set_option maxRecDepth 20000 in
theorem gX8_worth_X8_isDrawn : GoodIn wsX8_worth (wsV RX8 101 RX8 yX8_isDrawn wsX8_isDrawn) := goodIn_app (goodIn_of _ (by decide +kernel)) ggX8_worth_X8_isDrawn
set_option maxRecDepth 20000 in
theorem ggX8_worth_X8_openLineCount : GoodIn wsX8_worth wsX8_openLineCount := goodIn_r _ [29, 5, 30, 7, 31, 117, 118, 119, 120, 121, 122, 123, 124, 131, 132, 133, 134, 135, 136, 137, 125, 126, 127, 128, 129, 130] (by decide +kernel) (by decide +kernel)
set_option maxRecDepth 20000 in
theorem gX8_worth_X8_openLineCount : GoodIn wsX8_worth (wsV RX8 267 RX8 yX8_openLineCount wsX8_openLineCount) := goodIn_app (goodIn_of _ (by decide +kernel)) ggX8_worth_X8_openLineCount
set_option maxRecDepth 20000 in
theorem ggX8_worth_X0_openLines : GoodIn wsX8_worth wsX0_openLines := goodIn_r _ [35, 14, 36, 24, 18, 25, 131, 132, 133, 134, 135, 136, 137] (by decide +kernel) (by decide +kernel)
set_option maxRecDepth 20000 in
theorem gX8_worth_X0_openLines : GoodIn wsX8_worth (wsV RX8 272 RX0 yX0_openLines wsX0_openLines) := goodIn_app (goodIn_of _ (by decide +kernel)) ggX8_worth_X0_openLines
set_option maxRecDepth 20000 in
theorem ggX8_worth_X4_worthOf : GoodIn wsX8_worth wsX4_worthOf := goodIn_r _ [41, 42, 43, 44, 45, 40, 46, 47, 48, 49, 50, 51, 52, 53, 54, 55, 56, 57, 58, 59, 60, 61, 62, 63, 64, 65, 66, 18, 67, 68, 69, 70, 71, 72, 73, 74, 75, 76, 77, 78, 79, 80, 81, 82, 83, 84, 85, 12, 86, 87, 88, 89, 90, 91, 92, 93, 94, 95, 96, 97, 98, 99, 100, 21, 22, 23, 24, 25, 101, 102, 103, 104, 105, 106, 107, 108, 109, 110, 111, 112, 113, 114, 115, 116, 138, 139, 140, 141, 142, 143, 144, 145, 131, 132, 133, 134, 135, 136, 137] (by decide +kernel) (by decide +kernel)
set_option maxRecDepth 20000 in
theorem gX8_worth_X4_worthOf : GoodIn wsX8_worth (wsV RX8 280 RX4 yX4_worthOf wsX4_worthOf) := goodIn_app (goodIn_of _ (by decide +kernel)) ggX8_worth_X4_worthOf
theorem dX8_worth_0 : decode cX8_worth 0 = .ok (.aload_n 0, 1) := by decide +kernel
theorem dX8_worth_1 : decode cX8_worth 1 = .ok (.getfield 10, 3) := by decide +kernel
theorem dX8_worth_4 : decode cX8_worth 4 = .ok (.iload_n 1, 1) := by decide +kernel
theorem dX8_worth_5 : decode cX8_worth 5 = .ok (.invokevirtual 92, 3) := by decide +kernel
theorem dX8_worth_8 : decode cX8_worth 8 = .ok (.ifCond .ne 13, 3) := by decide +kernel
theorem dX8_worth_11 : decode cX8_worth 11 = .ok (.new 96, 3) := by decide +kernel
theorem dX8_worth_14 : decode cX8_worth 14 = .ok (.dup, 1) := by decide +kernel
theorem dX8_worth_15 : decode cX8_worth 15 = .ok (.ldc 98, 2) := by decide +kernel
theorem dX8_worth_17 : decode cX8_worth 17 = .ok (.invokespecial 100, 3) := by decide +kernel
theorem dX8_worth_20 : decode cX8_worth 20 = .ok (.athrow, 1) := by decide +kernel
theorem dX8_worth_21 : decode cX8_worth 21 = .ok (.aload_n 0, 1) := by decide +kernel
theorem dX8_worth_22 : decode cX8_worth 22 = .ok (.iload_n 1, 1) := by decide +kernel
theorem dX8_worth_23 : decode cX8_worth 23 = .ok (.invokevirtual 101, 3) := by decide +kernel
theorem dX8_worth_26 : decode cX8_worth 26 = .ok (.ifCond .ne 12, 3) := by decide +kernel
theorem dX8_worth_29 : decode cX8_worth 29 = .ok (.aload_n 0, 1) := by decide +kernel
theorem dX8_worth_30 : decode cX8_worth 30 = .ok (.invokevirtual 267, 3) := by decide +kernel
theorem dX8_worth_33 : decode cX8_worth 33 = .ok (.bipush 12, 2) := by decide +kernel
theorem dX8_worth_35 : decode cX8_worth 35 = .ok (.if_icmp .le 14, 3) := by decide +kernel
theorem dX8_worth_38 : decode cX8_worth 38 = .ok (.new 104, 3) := by decide +kernel
theorem dX8_worth_41 : decode cX8_worth 41 = .ok (.dup, 1) := by decide +kernel
theorem dX8_worth_42 : decode cX8_worth 42 = .ok (.ldc_w 278, 3) := by decide +kernel
theorem dX8_worth_45 : decode cX8_worth 45 = .ok (.invokespecial 108, 3) := by decide +kernel
theorem dX8_worth_48 : decode cX8_worth 48 = .ok (.athrow, 1) := by decide +kernel
theorem dX8_worth_49 : decode cX8_worth 49 = .ok (.aload_n 0, 1) := by decide +kernel
theorem dX8_worth_50 : decode cX8_worth 50 = .ok (.getfield 38, 3) := by decide +kernel
theorem dX8_worth_53 : decode cX8_worth 53 = .ok (.aload_n 0, 1) := by decide +kernel
theorem dX8_worth_54 : decode cX8_worth 54 = .ok (.getfield 10, 3) := by decide +kernel
theorem dX8_worth_57 : decode cX8_worth 57 = .ok (.aload_n 0, 1) := by decide +kernel
theorem dX8_worth_58 : decode cX8_worth 58 = .ok (.getfield 21, 3) := by decide +kernel
theorem dX8_worth_61 : decode cX8_worth 61 = .ok (.getfield 127, 3) := by decide +kernel
theorem dX8_worth_64 : decode cX8_worth 64 = .ok (.invokevirtual 272, 3) := by decide +kernel
theorem dX8_worth_67 : decode cX8_worth 67 = .ok (.iload_n 1, 1) := by decide +kernel
theorem dX8_worth_68 : decode cX8_worth 68 = .ok (.invokevirtual 280, 3) := by decide +kernel
theorem dX8_worth_71 : decode cX8_worth 71 = .ok (.ireturn, 1) := by decide +kernel
theorem dX8_openLineCount_0 : decode cX8_openLineCount 0 = .ok (.aload_n 0, 1) := by decide +kernel
theorem dX8_openLineCount_1 : decode cX8_openLineCount 1 = .ok (.getfield 10, 3) := by decide +kernel
theorem dX8_openLineCount_4 : decode cX8_openLineCount 4 = .ok (.getfield 88, 3) := by decide +kernel
theorem dX8_openLineCount_7 : decode cX8_openLineCount 7 = .ok (.aload_n 0, 1) := by decide +kernel
theorem dX8_openLineCount_8 : decode cX8_openLineCount 8 = .ok (.getfield 21, 3) := by decide +kernel
theorem dX8_openLineCount_11 : decode cX8_openLineCount 11 = .ok (.getfield 113, 3) := by decide +kernel
theorem dX8_openLineCount_14 : decode cX8_openLineCount 14 = .ok (.isub, 1) := by decide +kernel
theorem dX8_openLineCount_15 : decode cX8_openLineCount 15 = .ok (.ireturn, 1) := by decide +kernel
set_option maxRecDepth 20000 in
theorem ggX8_canonical_X7_lowestCode : GoodIn wsX8_canonical wsX7_lowestCode := goodIn_r _ [8, 9, 10, 11, 12, 13, 14, 15, 16, 7, 17, 18, 19, 20, 21, 22, 23, 24, 25, 26, 27, 28, 29, 30, 31, 32, 33, 34, 35, 36, 37, 38, 39, 40, 41, 42, 43, 44, 45, 60, 61, 62, 63, 64, 65, 66, 67, 68, 69, 70, 71] (by decide +kernel) (by decide +kernel)
set_option maxRecDepth 20000 in
theorem gX8_canonical_X7_lowestCode : GoodIn wsX8_canonical (wsV RX8 284 RX7 yX7_lowestCode wsX7_lowestCode) := goodIn_app (goodIn_of _ (by decide +kernel)) ggX8_canonical_X7_lowestCode
theorem dX8_canonical_0 : decode cX8_canonical 0 = .ok (.aload_n 0, 1) := by decide +kernel
theorem dX8_canonical_1 : decode cX8_canonical 1 = .ok (.getfield 45, 3) := by decide +kernel
theorem dX8_canonical_4 : decode cX8_canonical 4 = .ok (.aload_n 0, 1) := by decide +kernel
theorem dX8_canonical_5 : decode cX8_canonical 5 = .ok (.getfield 21, 3) := by decide +kernel
theorem dX8_canonical_8 : decode cX8_canonical 8 = .ok (.getfield 127, 3) := by decide +kernel
theorem dX8_canonical_11 : decode cX8_canonical 11 = .ok (.invokevirtual 284, 3) := by decide +kernel
theorem dX8_canonical_14 : decode cX8_canonical 14 = .ok (.lreturn, 1) := by decide +kernel
set_option maxRecDepth 20000 in
theorem ggX8_symmetries_X7_keepingCount : GoodIn wsX8_symmetries wsX7_keepingCount := goodIn_r _ [8, 9, 10, 11, 12, 7, 13, 14, 15, 16, 17, 18, 19, 20, 21, 22, 23, 24, 25, 26, 27, 28, 29, 30, 31, 32, 33, 34, 35, 36, 37, 38, 39, 40, 41, 56, 57, 58, 59, 60, 61, 62, 63, 64, 65, 66, 67] (by decide +kernel) (by decide +kernel)
set_option maxRecDepth 20000 in
theorem gX8_symmetries_X7_keepingCount : GoodIn wsX8_symmetries (wsV RX8 287 RX7 yX7_keepingCount wsX7_keepingCount) := goodIn_app (goodIn_of _ (by decide +kernel)) ggX8_symmetries_X7_keepingCount
theorem dX8_symmetries_0 : decode cX8_symmetries 0 = .ok (.aload_n 0, 1) := by decide +kernel
theorem dX8_symmetries_1 : decode cX8_symmetries 1 = .ok (.getfield 45, 3) := by decide +kernel
theorem dX8_symmetries_4 : decode cX8_symmetries 4 = .ok (.aload_n 0, 1) := by decide +kernel
theorem dX8_symmetries_5 : decode cX8_symmetries 5 = .ok (.getfield 21, 3) := by decide +kernel
theorem dX8_symmetries_8 : decode cX8_symmetries 8 = .ok (.getfield 127, 3) := by decide +kernel
theorem dX8_symmetries_11 : decode cX8_symmetries 11 = .ok (.invokevirtual 287, 3) := by decide +kernel
theorem dX8_symmetries_14 : decode cX8_symmetries 14 = .ok (.ireturn, 1) := by decide +kernel
set_option maxRecDepth 20000 in
theorem ggX8_followers_X7_followerCount : GoodIn wsX8_followers wsX7_followerCount := goodIn_r _ [8, 9, 10, 11, 12, 13, 14, 7, 15, 16, 17, 18, 19, 20, 21, 22, 23, 24, 25, 26, 27, 28, 29, 30, 31, 32, 33, 34, 35, 36, 37, 38, 39, 40, 41, 42, 43, 44, 45, 46, 47, 48, 49, 50, 51, 52, 53, 54, 69, 70, 71, 72, 73, 74, 75, 76, 77, 78, 79, 80] (by decide +kernel) (by decide +kernel)
set_option maxRecDepth 20000 in
theorem gX8_followers_X7_followerCount : GoodIn wsX8_followers (wsV RX8 290 RX7 yX7_followerCount wsX7_followerCount) := goodIn_app (goodIn_of _ (by decide +kernel)) ggX8_followers_X7_followerCount
theorem dX8_followers_0 : decode cX8_followers 0 = .ok (.aload_n 0, 1) := by decide +kernel
theorem dX8_followers_1 : decode cX8_followers 1 = .ok (.getfield 45, 3) := by decide +kernel
theorem dX8_followers_4 : decode cX8_followers 4 = .ok (.aload_n 0, 1) := by decide +kernel
theorem dX8_followers_5 : decode cX8_followers 5 = .ok (.getfield 21, 3) := by decide +kernel
theorem dX8_followers_8 : decode cX8_followers 8 = .ok (.getfield 127, 3) := by decide +kernel
theorem dX8_followers_11 : decode cX8_followers 11 = .ok (.invokevirtual 290, 3) := by decide +kernel
theorem dX8_followers_14 : decode cX8_followers 14 = .ok (.ireturn, 1) := by decide +kernel
set_option maxRecDepth 20000 in
theorem ggX8_advice_X8_isStyle : GoodIn wsX8_advice wsX8_isStyle := goodIn_r _ [9] (by decide +kernel) (by decide +kernel)
set_option maxRecDepth 20000 in
theorem gX8_advice_X8_isStyle : GoodIn wsX8_advice (va_wsS RX8 122 yX8_isStyle wsX8_isStyle) := goodIn_app (goodIn_of _ (by decide +kernel)) ggX8_advice_X8_isStyle
set_option maxRecDepth 20000 in
theorem ggX8_advice_X6_choose : GoodIn wsX8_advice wsX6_choose := goodIn_r _ [14, 15, 16, 17, 18, 19, 20, 21, 22, 23, 24, 25, 8, 26, 27, 28, 29, 30, 31, 32, 33, 34, 35, 36, 37, 38, 39, 40, 41, 42, 43, 44, 45, 46, 47, 48, 49, 50, 51, 52, 53, 54, 55, 56, 57, 58, 59, 60, 61, 62, 63, 64, 65, 66, 67, 68, 69, 70, 71, 72, 73, 74, 75, 76, 77, 78, 79, 80, 81, 82, 83, 84, 85, 86, 87, 88, 89, 90, 91, 92, 93, 94, 95, 96, 97, 98, 99, 100, 101, 102, 103, 104, 105, 106, 107, 108, 109, 110, 111, 112, 113, 114, 115, 116, 117, 118, 119, 120, 121, 122, 123, 124, 125, 126, 127, 128, 129, 130, 131, 132, 13, 133, 134, 135, 136, 137, 138, 139, 140, 141, 142, 143, 144, 145, 146, 147, 148, 149, 150, 151, 152, 167, 168, 169, 170, 171, 172, 173, 174, 175, 176, 177, 178, 179, 180, 181, 182, 183] (by decide +kernel) (by decide +kernel)
set_option maxRecDepth 20000 in
theorem gX8_advice_X6_choose : GoodIn wsX8_advice (wsV RX8 131 RX6 yX6_choose wsX6_choose) := goodIn_app (goodIn_of _ (by decide +kernel)) ggX8_advice_X6_choose
theorem dX8_advice_0 : decode cX8_advice 0 = .ok (.iload_n 1, 1) := by decide +kernel
theorem dX8_advice_1 : decode cX8_advice 1 = .ok (.invokestatic 122, 3) := by decide +kernel
theorem dX8_advice_4 : decode cX8_advice 4 = .ok (.ifCond .ne 14, 3) := by decide +kernel
theorem dX8_advice_7 : decode cX8_advice 7 = .ok (.new 81, 3) := by decide +kernel
theorem dX8_advice_10 : decode cX8_advice 10 = .ok (.dup, 1) := by decide +kernel
theorem dX8_advice_11 : decode cX8_advice 11 = .ok (.ldc_w 293, 3) := by decide +kernel
theorem dX8_advice_14 : decode cX8_advice 14 = .ok (.invokespecial 85, 3) := by decide +kernel
theorem dX8_advice_17 : decode cX8_advice 17 = .ok (.athrow, 1) := by decide +kernel
theorem dX8_advice_18 : decode cX8_advice 18 = .ok (.aload_n 0, 1) := by decide +kernel
theorem dX8_advice_19 : decode cX8_advice 19 = .ok (.getfield 54, 3) := by decide +kernel
theorem dX8_advice_22 : decode cX8_advice 22 = .ok (.iload_n 1, 1) := by decide +kernel
theorem dX8_advice_23 : decode cX8_advice 23 = .ok (.aload_n 0, 1) := by decide +kernel
theorem dX8_advice_24 : decode cX8_advice 24 = .ok (.getfield 21, 3) := by decide +kernel
theorem dX8_advice_27 : decode cX8_advice 27 = .ok (.getfield 127, 3) := by decide +kernel
theorem dX8_advice_30 : decode cX8_advice 30 = .ok (.invokevirtual 131, 3) := by decide +kernel
theorem dX8_advice_33 : decode cX8_advice 33 = .ok (.ireturn, 1) := by decide +kernel
set_option maxRecDepth 20000 in
theorem ggX8_playout_X8_isStyle : GoodIn wsX8_playout wsX8_isStyle := goodIn_r _ [11] (by decide +kernel) (by decide +kernel)
set_option maxRecDepth 20000 in
theorem gX8_playout_X8_isStyle : GoodIn wsX8_playout (va_wsS RX8 122 yX8_isStyle wsX8_isStyle) := goodIn_app (goodIn_of _ (by decide +kernel)) ggX8_playout_X8_isStyle
set_option maxRecDepth 20000 in
theorem ggX8_playout_X2_copyFrom : GoodIn wsX8_playout wsX2_copyFrom := goodIn_r _ [16, 17, 18, 19, 20, 21, 22, 23, 24, 15, 25, 26, 27, 28, 29, 30, 31, 32, 33, 34, 35, 36, 211, 212, 213, 214, 215, 216] (by decide +kernel) (by decide +kernel)
set_option maxRecDepth 20000 in
theorem gX8_playout_X2_copyFrom : GoodIn wsX8_playout (wsV RX8 297 RX2 yX2_copyFrom wsX2_copyFrom) := goodIn_app (goodIn_of _ (by decide +kernel)) ggX8_playout_X2_copyFrom
set_option maxRecDepth 20000 in
theorem ggX8_playout_X6_choose : GoodIn wsX8_playout wsX6_choose := goodIn_r _ [41, 42, 43, 44, 45, 46, 47, 48, 49, 50, 51, 52, 10, 53, 54, 55, 56, 57, 58, 59, 60, 61, 62, 63, 64, 65, 66, 67, 68, 69, 70, 71, 72, 73, 74, 75, 76, 77, 78, 79, 80, 81, 82, 83, 84, 85, 86, 87, 88, 89, 90, 31, 28, 32, 91, 92, 93, 94, 95, 27, 29, 96, 97, 98, 99, 100, 101, 102, 103, 104, 105, 106, 107, 108, 109, 110, 111, 112, 113, 114, 115, 116, 117, 118, 119, 120, 121, 122, 123, 124, 125, 126, 127, 128, 129, 130, 131, 132, 133, 134, 135, 136, 137, 138, 139, 140, 141, 142, 143, 144, 145, 146, 147, 148, 149, 150, 151, 152, 153, 154, 40, 155, 156, 157, 158, 159, 160, 161, 162, 163, 164, 165, 166, 167, 168, 169, 170, 171, 172, 173, 174, 217, 218, 219, 220, 221, 222, 223, 224, 225, 226, 227, 228, 229, 230, 231, 232, 233] (by decide +kernel) (by decide +kernel)
set_option maxRecDepth 20000 in
theorem gX8_playout_X6_choose : GoodIn wsX8_playout (wsV RX8 131 RX6 yX6_choose wsX6_choose) := goodIn_app (goodIn_of _ (by decide +kernel)) ggX8_playout_X6_choose
set_option maxRecDepth 20000 in
theorem ggX8_playout_X2_make : GoodIn wsX8_playout wsX2_make := goodIn_r _ [178, 17, 20, 18, 179, 19, 52, 10, 53, 30, 31, 28, 32, 180, 97, 98, 48, 99, 100, 101, 27, 29, 181, 182, 183, 15, 184, 21, 185, 186, 187, 188, 189, 190, 191, 192, 141, 142, 143, 144, 145, 106, 51, 107, 108, 109, 193, 118, 119, 120, 121, 211, 212, 213, 214, 215, 216, 219, 220, 221, 222, 223, 224, 225] (by decide +kernel) (by decide +kernel)
set_option maxRecDepth 20000 in
theorem gX8_playout_X2_make : GoodIn wsX8_playout (wsV RX8 109 RX2 yX2_make wsX2_make) := goodIn_app (goodIn_of _ (by decide +kernel)) ggX8_playout_X2_make
set_option maxRecDepth 20000 in
theorem ggX8_playout_X2_difference : GoodIn wsX8_playout wsX2_difference := goodIn_r _ [197, 198, 199, 200, 15, 201, 179, 202, 33, 34, 35, 36, 21, 26, 27, 28, 29, 211, 212, 213, 214, 215, 216, 219, 220, 221, 222, 223, 224, 225] (by decide +kernel) (by decide +kernel)
set_option maxRecDepth 20000 in
theorem gX8_playout_X2_difference : GoodIn wsX8_playout (wsV RX8 301 RX2 yX2_difference wsX2_difference) := goodIn_app (goodIn_of _ (by decide +kernel)) ggX8_playout_X2_difference
theorem dX8_playout_0 : decode cX8_playout 0 = .ok (.iload_n 1, 1) := by decide +kernel
theorem dX8_playout_1 : decode cX8_playout 1 = .ok (.invokestatic 122, 3) := by decide +kernel
theorem dX8_playout_4 : decode cX8_playout 4 = .ok (.ifCond .eq 19, 3) := by decide +kernel
theorem dX8_playout_7 : decode cX8_playout 7 = .ok (.iload_n 2, 1) := by decide +kernel
theorem dX8_playout_8 : decode cX8_playout 8 = .ok (.invokestatic 122, 3) := by decide +kernel
theorem dX8_playout_11 : decode cX8_playout 11 = .ok (.ifCond .eq 12, 3) := by decide +kernel
theorem dX8_playout_14 : decode cX8_playout 14 = .ok (.iload_n 3, 1) := by decide +kernel
theorem dX8_playout_15 : decode cX8_playout 15 = .ok (.ifCond .lt 8, 3) := by decide +kernel
theorem dX8_playout_18 : decode cX8_playout 18 = .ok (.iload_n 3, 1) := by decide +kernel
theorem dX8_playout_19 : decode cX8_playout 19 = .ok (.iconst 2, 1) := by decide +kernel
theorem dX8_playout_20 : decode cX8_playout 20 = .ok (.if_icmp .le 14, 3) := by decide +kernel
theorem dX8_playout_23 : decode cX8_playout 23 = .ok (.new 81, 3) := by decide +kernel
theorem dX8_playout_26 : decode cX8_playout 26 = .ok (.dup, 1) := by decide +kernel
theorem dX8_playout_27 : decode cX8_playout 27 = .ok (.ldc_w 295, 3) := by decide +kernel
theorem dX8_playout_30 : decode cX8_playout 30 = .ok (.invokespecial 85, 3) := by decide +kernel
theorem dX8_playout_33 : decode cX8_playout 33 = .ok (.athrow, 1) := by decide +kernel
theorem dX8_playout_34 : decode cX8_playout 34 = .ok (.aload_n 0, 1) := by decide +kernel
theorem dX8_playout_35 : decode cX8_playout 35 = .ok (.getfield 25, 3) := by decide +kernel
theorem dX8_playout_38 : decode cX8_playout 38 = .ok (.aload_n 0, 1) := by decide +kernel
theorem dX8_playout_39 : decode cX8_playout 39 = .ok (.getfield 21, 3) := by decide +kernel
theorem dX8_playout_42 : decode cX8_playout 42 = .ok (.invokevirtual 297, 3) := by decide +kernel
theorem dX8_playout_45 : decode cX8_playout 45 = .ok (.iconst 0, 1) := by decide +kernel
theorem dX8_playout_46 : decode cX8_playout 46 = .ok (.istore 4, 2) := by decide +kernel
theorem dX8_playout_48 : decode cX8_playout 48 = .ok (.iconst (-1), 1) := by decide +kernel
theorem dX8_playout_49 : decode cX8_playout 49 = .ok (.istore 5, 2) := by decide +kernel
theorem dX8_playout_51 : decode cX8_playout 51 = .ok (.iconst 0, 1) := by decide +kernel
theorem dX8_playout_52 : decode cX8_playout 52 = .ok (.istore 6, 2) := by decide +kernel
theorem dX8_playout_54 : decode cX8_playout 54 = .ok (.iload 6, 2) := by decide +kernel
theorem dX8_playout_56 : decode cX8_playout 56 = .ok (.bipush 40, 2) := by decide +kernel
theorem dX8_playout_58 : decode cX8_playout 58 = .ok (.if_icmp .ge 68, 3) := by decide +kernel
theorem dX8_playout_61 : decode cX8_playout 61 = .ok (.aload_n 0, 1) := by decide +kernel
theorem dX8_playout_62 : decode cX8_playout 62 = .ok (.getfield 54, 3) := by decide +kernel
theorem dX8_playout_65 : decode cX8_playout 65 = .ok (.aload_n 0, 1) := by decide +kernel
theorem dX8_playout_66 : decode cX8_playout 66 = .ok (.getfield 25, 3) := by decide +kernel
theorem dX8_playout_69 : decode cX8_playout 69 = .ok (.getfield 178, 3) := by decide +kernel
theorem dX8_playout_72 : decode cX8_playout 72 = .ok (.ifCond .ne 7, 3) := by decide +kernel
theorem dX8_playout_75 : decode cX8_playout 75 = .ok (.iload_n 1, 1) := by decide +kernel
theorem dX8_playout_76 : decode cX8_playout 76 = .ok (.goto 4, 3) := by decide +kernel
theorem dX8_playout_79 : decode cX8_playout 79 = .ok (.iload_n 2, 1) := by decide +kernel
theorem dX8_playout_80 : decode cX8_playout 80 = .ok (.aload_n 0, 1) := by decide +kernel
theorem dX8_playout_81 : decode cX8_playout 81 = .ok (.getfield 25, 3) := by decide +kernel
theorem dX8_playout_84 : decode cX8_playout 84 = .ok (.getfield 127, 3) := by decide +kernel
theorem dX8_playout_87 : decode cX8_playout 87 = .ok (.invokevirtual 131, 3) := by decide +kernel
theorem dX8_playout_90 : decode cX8_playout 90 = .ok (.istore 7, 2) := by decide +kernel
theorem dX8_playout_92 : decode cX8_playout 92 = .ok (.iload 7, 2) := by decide +kernel
theorem dX8_playout_94 : decode cX8_playout 94 = .ok (.iconst (-1), 1) := by decide +kernel
theorem dX8_playout_95 : decode cX8_playout 95 = .ok (.if_icmp .ne 6, 3) := by decide +kernel
theorem dX8_playout_98 : decode cX8_playout 98 = .ok (.goto 28, 3) := by decide +kernel
theorem dX8_playout_101 : decode cX8_playout 101 = .ok (.iload 7, 2) := by decide +kernel
theorem dX8_playout_103 : decode cX8_playout 103 = .ok (.istore 5, 2) := by decide +kernel
theorem dX8_playout_105 : decode cX8_playout 105 = .ok (.aload_n 0, 1) := by decide +kernel
theorem dX8_playout_106 : decode cX8_playout 106 = .ok (.getfield 25, 3) := by decide +kernel
theorem dX8_playout_109 : decode cX8_playout 109 = .ok (.iload 7, 2) := by decide +kernel
theorem dX8_playout_111 : decode cX8_playout 111 = .ok (.invokevirtual 109, 3) := by decide +kernel
theorem dX8_playout_114 : decode cX8_playout 114 = .ok (.ifCond .ne 6, 3) := by decide +kernel
theorem dX8_playout_117 : decode cX8_playout 117 = .ok (.iinc 4 1, 3) := by decide +kernel
theorem dX8_playout_120 : decode cX8_playout 120 = .ok (.iinc 6 1, 3) := by decide +kernel
theorem dX8_playout_123 : decode cX8_playout 123 = .ok (.goto (-69), 3) := by decide +kernel
theorem dX8_playout_126 : decode cX8_playout 126 = .ok (.iload_n 3, 1) := by decide +kernel
theorem dX8_playout_127 : decode cX8_playout 127 = .ok (.lookupswitch 36 #[(0, 25), (1, 33)], 25) := by decide +kernel
theorem dX8_playout_152 : decode cX8_playout 152 = .ok (.aload_n 0, 1) := by decide +kernel
theorem dX8_playout_153 : decode cX8_playout 153 = .ok (.getfield 25, 3) := by decide +kernel
theorem dX8_playout_156 : decode cX8_playout 156 = .ok (.invokevirtual 301, 3) := by decide +kernel
theorem dX8_playout_159 : decode cX8_playout 159 = .ok (.ireturn, 1) := by decide +kernel
theorem dX8_playout_160 : decode cX8_playout 160 = .ok (.iload 4, 2) := by decide +kernel
theorem dX8_playout_162 : decode cX8_playout 162 = .ok (.ireturn, 1) := by decide +kernel
theorem dX8_playout_163 : decode cX8_playout 163 = .ok (.iload 5, 2) := by decide +kernel
theorem dX8_playout_165 : decode cX8_playout 165 = .ok (.ireturn, 1) := by decide +kernel
set_option maxRecDepth 20000 in
theorem ggX8_meanDifference_X2_copyFrom : GoodIn wsX8_meanDifference wsX2_copyFrom := goodIn_r _ [9, 10, 11, 12, 13, 14, 15, 16, 17, 8, 18, 19, 20, 21, 22, 23, 24, 25, 26, 27, 28, 29, 117, 118, 119, 120, 121, 122] (by decide +kernel) (by decide +kernel)
set_option maxRecDepth 20000 in
theorem gX8_meanDifference_X2_copyFrom : GoodIn wsX8_meanDifference (wsV RX8 297 RX2 yX2_copyFrom wsX2_copyFrom) := goodIn_app (goodIn_of _ (by decide +kernel)) ggX8_meanDifference_X2_copyFrom
set_option maxRecDepth 20000 in
theorem ggX8_meanDifference_X8_playRandomly : GoodIn wsX8_meanDifference wsX8_playRandomly := goodIn_r _ [34, 35, 3, 36, 37, 38, 39, 40, 41, 42, 43, 44, 45, 46, 47, 48, 33, 49, 50, 51, 52, 53, 54, 55, 56, 57, 58, 59, 60, 61, 62, 63, 64, 65, 8, 66, 10, 13, 11, 67, 12, 23, 24, 21, 25, 68, 69, 70, 71, 72, 73, 20, 22, 74, 75, 76, 77, 14, 78, 79, 80, 81, 82, 83, 84, 85, 86, 87, 88, 89, 90, 91, 92, 93, 94, 95, 96, 97, 98, 99, 109, 110, 111, 112, 113, 114, 115, 116, 117, 118, 119, 120, 121, 122, 123, 124, 125, 126, 127, 128, 129] (by decide +kernel) (by decide +kernel)
set_option maxRecDepth 20000 in
theorem gX8_meanDifference_X8_playRandomly : GoodIn wsX8_meanDifference (wsV RX8 306 RX8 yX8_playRandomly wsX8_playRandomly) := goodIn_app (goodIn_of _ (by decide +kernel)) ggX8_meanDifference_X8_playRandomly
set_option maxRecDepth 20000 in
theorem ggX8_meanDifference_X2_difference : GoodIn wsX8_meanDifference wsX2_difference := goodIn_r _ [103, 104, 105, 106, 8, 107, 67, 108, 26, 27, 28, 29, 14, 19, 20, 21, 22, 117, 118, 119, 120, 121, 122, 123, 124, 125, 126, 127, 128, 129] (by decide +kernel) (by decide +kernel)
set_option maxRecDepth 20000 in
theorem gX8_meanDifference_X2_difference : GoodIn wsX8_meanDifference (wsV RX8 301 RX2 yX2_difference wsX2_difference) := goodIn_app (goodIn_of _ (by decide +kernel)) ggX8_meanDifference_X2_difference
theorem dX8_meanDifference_0 : decode cX8_meanDifference 0 = .ok (.iload_n 1, 1) := by decide +kernel
theorem dX8_meanDifference_1 : decode cX8_meanDifference 1 = .ok (.iconst 1, 1) := by decide +kernel
theorem dX8_meanDifference_2 : decode cX8_meanDifference 2 = .ok (.if_icmp .lt 13, 3) := by decide +kernel
theorem dX8_meanDifference_5 : decode cX8_meanDifference 5 = .ok (.iload_n 1, 1) := by decide +kernel
theorem dX8_meanDifference_6 : decode cX8_meanDifference 6 = .ok (.bipush 20, 2) := by decide +kernel
theorem dX8_meanDifference_8 : decode cX8_meanDifference 8 = .ok (.if_icmp .gt 7, 3) := by decide +kernel
theorem dX8_meanDifference_11 : decode cX8_meanDifference 11 = .ok (.iload_n 2, 1) := by decide +kernel
theorem dX8_meanDifference_12 : decode cX8_meanDifference 12 = .ok (.ifCond .ge 14, 3) := by decide +kernel
theorem dX8_meanDifference_15 : decode cX8_meanDifference 15 = .ok (.new 81, 3) := by decide +kernel
theorem dX8_meanDifference_18 : decode cX8_meanDifference 18 = .ok (.dup, 1) := by decide +kernel
theorem dX8_meanDifference_19 : decode cX8_meanDifference 19 = .ok (.ldc_w 304, 3) := by decide +kernel
theorem dX8_meanDifference_22 : decode cX8_meanDifference 22 = .ok (.invokespecial 85, 3) := by decide +kernel
theorem dX8_meanDifference_25 : decode cX8_meanDifference 25 = .ok (.athrow, 1) := by decide +kernel
theorem dX8_meanDifference_26 : decode cX8_meanDifference 26 = .ok (.iload_n 2, 1) := by decide +kernel
theorem dX8_meanDifference_27 : decode cX8_meanDifference 27 = .ok (.i2l, 1) := by decide +kernel
theorem dX8_meanDifference_28 : decode cX8_meanDifference 28 = .ok (.lstore_n 3, 1) := by decide +kernel
theorem dX8_meanDifference_29 : decode cX8_meanDifference 29 = .ok (.lconst 0, 1) := by decide +kernel
theorem dX8_meanDifference_30 : decode cX8_meanDifference 30 = .ok (.lstore 5, 2) := by decide +kernel
theorem dX8_meanDifference_32 : decode cX8_meanDifference 32 = .ok (.iconst 0, 1) := by decide +kernel
theorem dX8_meanDifference_33 : decode cX8_meanDifference 33 = .ok (.istore 7, 2) := by decide +kernel
theorem dX8_meanDifference_35 : decode cX8_meanDifference 35 = .ok (.iload 7, 2) := by decide +kernel
theorem dX8_meanDifference_37 : decode cX8_meanDifference 37 = .ok (.iload_n 1, 1) := by decide +kernel
theorem dX8_meanDifference_38 : decode cX8_meanDifference 38 = .ok (.if_icmp .ge 39, 3) := by decide +kernel
theorem dX8_meanDifference_41 : decode cX8_meanDifference 41 = .ok (.aload_n 0, 1) := by decide +kernel
theorem dX8_meanDifference_42 : decode cX8_meanDifference 42 = .ok (.getfield 25, 3) := by decide +kernel
theorem dX8_meanDifference_45 : decode cX8_meanDifference 45 = .ok (.aload_n 0, 1) := by decide +kernel
theorem dX8_meanDifference_46 : decode cX8_meanDifference 46 = .ok (.getfield 21, 3) := by decide +kernel
theorem dX8_meanDifference_49 : decode cX8_meanDifference 49 = .ok (.invokevirtual 297, 3) := by decide +kernel
theorem dX8_meanDifference_52 : decode cX8_meanDifference 52 = .ok (.aload_n 0, 1) := by decide +kernel
theorem dX8_meanDifference_53 : decode cX8_meanDifference 53 = .ok (.lload_n 3, 1) := by decide +kernel
theorem dX8_meanDifference_54 : decode cX8_meanDifference 54 = .ok (.invokevirtual 306, 3) := by decide +kernel
theorem dX8_meanDifference_57 : decode cX8_meanDifference 57 = .ok (.lstore_n 3, 1) := by decide +kernel
theorem dX8_meanDifference_58 : decode cX8_meanDifference 58 = .ok (.lload 5, 2) := by decide +kernel
theorem dX8_meanDifference_60 : decode cX8_meanDifference 60 = .ok (.aload_n 0, 1) := by decide +kernel
theorem dX8_meanDifference_61 : decode cX8_meanDifference 61 = .ok (.getfield 25, 3) := by decide +kernel
theorem dX8_meanDifference_64 : decode cX8_meanDifference 64 = .ok (.invokevirtual 301, 3) := by decide +kernel
theorem dX8_meanDifference_67 : decode cX8_meanDifference 67 = .ok (.i2l, 1) := by decide +kernel
theorem dX8_meanDifference_68 : decode cX8_meanDifference 68 = .ok (.ladd, 1) := by decide +kernel
theorem dX8_meanDifference_69 : decode cX8_meanDifference 69 = .ok (.lstore 5, 2) := by decide +kernel
theorem dX8_meanDifference_71 : decode cX8_meanDifference 71 = .ok (.iinc 7 1, 3) := by decide +kernel
theorem dX8_meanDifference_74 : decode cX8_meanDifference 74 = .ok (.goto (-39), 3) := by decide +kernel
theorem dX8_meanDifference_77 : decode cX8_meanDifference 77 = .ok (.lload 5, 2) := by decide +kernel
theorem dX8_meanDifference_79 : decode cX8_meanDifference 79 = .ok (.l2d, 1) := by decide +kernel
theorem dX8_meanDifference_80 : decode cX8_meanDifference 80 = .ok (.iload_n 1, 1) := by decide +kernel
theorem dX8_meanDifference_81 : decode cX8_meanDifference 81 = .ok (.i2d, 1) := by decide +kernel
theorem dX8_meanDifference_82 : decode cX8_meanDifference 82 = .ok (.ddiv, 1) := by decide +kernel
theorem dX8_meanDifference_83 : decode cX8_meanDifference 83 = .ok (.dreturn, 1) := by decide +kernel
set_option maxRecDepth 20000 in
theorem ggX8_playRandomly_X0_openLines : GoodIn wsX8_playRandomly wsX0_openLines := goodIn_r _ [12, 13, 14, 15, 16, 17, 94, 95, 96, 97, 98, 99, 100] (by decide +kernel) (by decide +kernel)
set_option maxRecDepth 20000 in
theorem gX8_playRandomly_X0_openLines : GoodIn wsX8_playRandomly (wsV RX8 272 RX0 yX0_openLines wsX0_openLines) := goodIn_app (goodIn_of _ (by decide +kernel)) ggX8_playRandomly_X0_openLines
set_option maxRecDepth 20000 in
theorem ggX8_playRandomly_J13_bitCount_95d88 : GoodIn wsX8_playRandomly wsJ13_bitCount_95d88 := goodIn_r _ [21, 22, 23, 24] (by decide +kernel) (by decide +kernel)
set_option maxRecDepth 20000 in
theorem gX8_playRandomly_J13_bitCount_95d88 : GoodIn wsX8_playRandomly (va_wsS RX8 185 yJ13_bitCount_95d88 wsJ13_bitCount_95d88) := goodIn_app (goodIn_of _ (by decide +kernel)) ggX8_playRandomly_J13_bitCount_95d88
set_option maxRecDepth 20000 in
theorem ggX8_playRandomly_X8_memberOf : GoodIn wsX8_playRandomly wsX8_memberOf := goodIn_r _ [27, 28, 29, 16, 30, 18, 19, 20, 21, 22, 23, 24] (by decide +kernel) (by decide +kernel)
set_option maxRecDepth 20000 in
theorem gX8_playRandomly_X8_memberOf : GoodIn wsX8_playRandomly (va_wsS RX8 317 yX8_memberOf wsX8_memberOf) := goodIn_app (goodIn_of _ (by decide +kernel)) ggX8_playRandomly_X8_memberOf
set_option maxRecDepth 20000 in
theorem ggX8_playRandomly_X2_make : GoodIn wsX8_playRandomly wsX2_make := goodIn_r _ [35, 36, 37, 38, 39, 40, 15, 16, 17, 41, 42, 43, 44, 45, 46, 47, 11, 48, 49, 50, 51, 52, 53, 54, 55, 34, 56, 57, 58, 59, 60, 61, 62, 63, 64, 65, 66, 67, 68, 69, 70, 71, 14, 72, 73, 74, 75, 76, 77, 78, 79, 88, 89, 90, 91, 92, 93, 94, 95, 96, 97, 98, 99, 100] (by decide +kernel) (by decide +kernel)
set_option maxRecDepth 20000 in
theorem gX8_playRandomly_X2_make : GoodIn wsX8_playRandomly (wsV RX8 109 RX2 yX2_make wsX2_make) := goodIn_app (goodIn_of _ (by decide +kernel)) ggX8_playRandomly_X2_make
theorem dX8_playRandomly_0 : decode cX8_playRandomly 0 = .ok (.lload_n 1, 1) := by decide +kernel
theorem dX8_playRandomly_1 : decode cX8_playRandomly 1 = .ok (.lstore_n 3, 1) := by decide +kernel
theorem dX8_playRandomly_2 : decode cX8_playRandomly 2 = .ok (.iconst 0, 1) := by decide +kernel
theorem dX8_playRandomly_3 : decode cX8_playRandomly 3 = .ok (.istore 5, 2) := by decide +kernel
theorem dX8_playRandomly_5 : decode cX8_playRandomly 5 = .ok (.iload 5, 2) := by decide +kernel
theorem dX8_playRandomly_7 : decode cX8_playRandomly 7 = .ok (.bipush 40, 2) := by decide +kernel
theorem dX8_playRandomly_9 : decode cX8_playRandomly 9 = .ok (.if_icmp .ge 77, 3) := by decide +kernel
theorem dX8_playRandomly_12 : decode cX8_playRandomly 12 = .ok (.aload_n 0, 1) := by decide +kernel
theorem dX8_playRandomly_13 : decode cX8_playRandomly 13 = .ok (.getfield 10, 3) := by decide +kernel
theorem dX8_playRandomly_16 : decode cX8_playRandomly 16 = .ok (.aload_n 0, 1) := by decide +kernel
theorem dX8_playRandomly_17 : decode cX8_playRandomly 17 = .ok (.getfield 25, 3) := by decide +kernel
theorem dX8_playRandomly_20 : decode cX8_playRandomly 20 = .ok (.getfield 127, 3) := by decide +kernel
theorem dX8_playRandomly_23 : decode cX8_playRandomly 23 = .ok (.invokevirtual 272, 3) := by decide +kernel
theorem dX8_playRandomly_26 : decode cX8_playRandomly 26 = .ok (.lstore 6, 2) := by decide +kernel
theorem dX8_playRandomly_28 : decode cX8_playRandomly 28 = .ok (.lload 6, 2) := by decide +kernel
theorem dX8_playRandomly_30 : decode cX8_playRandomly 30 = .ok (.invokestatic 185, 3) := by decide +kernel
theorem dX8_playRandomly_33 : decode cX8_playRandomly 33 = .ok (.istore 8, 2) := by decide +kernel
theorem dX8_playRandomly_35 : decode cX8_playRandomly 35 = .ok (.iload 8, 2) := by decide +kernel
theorem dX8_playRandomly_37 : decode cX8_playRandomly 37 = .ok (.ifCond .ne 6, 3) := by decide +kernel
theorem dX8_playRandomly_40 : decode cX8_playRandomly 40 = .ok (.goto 46, 3) := by decide +kernel
theorem dX8_playRandomly_43 : decode cX8_playRandomly 43 = .ok (.ldc2_w 309, 3) := by decide +kernel
theorem dX8_playRandomly_46 : decode cX8_playRandomly 46 = .ok (.lload_n 3, 1) := by decide +kernel
theorem dX8_playRandomly_47 : decode cX8_playRandomly 47 = .ok (.lmul, 1) := by decide +kernel
theorem dX8_playRandomly_48 : decode cX8_playRandomly 48 = .ok (.ldc2_w 311, 3) := by decide +kernel
theorem dX8_playRandomly_51 : decode cX8_playRandomly 51 = .ok (.ladd, 1) := by decide +kernel
theorem dX8_playRandomly_52 : decode cX8_playRandomly 52 = .ok (.ldc2_w 313, 3) := by decide +kernel
theorem dX8_playRandomly_55 : decode cX8_playRandomly 55 = .ok (.land, 1) := by decide +kernel
theorem dX8_playRandomly_56 : decode cX8_playRandomly 56 = .ok (.lstore_n 3, 1) := by decide +kernel
theorem dX8_playRandomly_57 : decode cX8_playRandomly 57 = .ok (.aload_n 0, 1) := by decide +kernel
theorem dX8_playRandomly_58 : decode cX8_playRandomly 58 = .ok (.getfield 25, 3) := by decide +kernel
theorem dX8_playRandomly_61 : decode cX8_playRandomly 61 = .ok (.lload 6, 2) := by decide +kernel
theorem dX8_playRandomly_63 : decode cX8_playRandomly 63 = .ok (.lload_n 3, 1) := by decide +kernel
theorem dX8_playRandomly_64 : decode cX8_playRandomly 64 = .ok (.ldc2_w 315, 3) := by decide +kernel
theorem dX8_playRandomly_67 : decode cX8_playRandomly 67 = .ok (.ldiv, 1) := by decide +kernel
theorem dX8_playRandomly_68 : decode cX8_playRandomly 68 = .ok (.iload 8, 2) := by decide +kernel
theorem dX8_playRandomly_70 : decode cX8_playRandomly 70 = .ok (.i2l, 1) := by decide +kernel
theorem dX8_playRandomly_71 : decode cX8_playRandomly 71 = .ok (.lrem, 1) := by decide +kernel
theorem dX8_playRandomly_72 : decode cX8_playRandomly 72 = .ok (.l2i, 1) := by decide +kernel
theorem dX8_playRandomly_73 : decode cX8_playRandomly 73 = .ok (.invokestatic 317, 3) := by decide +kernel
theorem dX8_playRandomly_76 : decode cX8_playRandomly 76 = .ok (.invokevirtual 109, 3) := by decide +kernel
theorem dX8_playRandomly_79 : decode cX8_playRandomly 79 = .ok (.pop, 1) := by decide +kernel
theorem dX8_playRandomly_80 : decode cX8_playRandomly 80 = .ok (.iinc 5 1, 3) := by decide +kernel
theorem dX8_playRandomly_83 : decode cX8_playRandomly 83 = .ok (.goto (-78), 3) := by decide +kernel
theorem dX8_playRandomly_86 : decode cX8_playRandomly 86 = .ok (.lload_n 3, 1) := by decide +kernel
theorem dX8_playRandomly_87 : decode cX8_playRandomly 87 = .ok (.lreturn, 1) := by decide +kernel
theorem dX8_bit_0 : decode cX8_bit 0 = .ok (.lconst 1, 1) := by decide +kernel
theorem dX8_bit_1 : decode cX8_bit 1 = .ok (.iload_n 0, 1) := by decide +kernel
theorem dX8_bit_2 : decode cX8_bit 2 = .ok (.lshl, 1) := by decide +kernel
theorem dX8_bit_3 : decode cX8_bit 3 = .ok (.lreturn, 1) := by decide +kernel
set_option maxRecDepth 20000 in
theorem ggX8_contains_X8_bit : GoodIn wsX8_contains wsX8_bit := goodIn_r _ [4] (by decide +kernel) (by decide +kernel)
set_option maxRecDepth 20000 in
theorem gX8_contains_X8_bit : GoodIn wsX8_contains (va_wsS RX8 215 yX8_bit wsX8_bit) := goodIn_app (goodIn_of _ (by decide +kernel)) ggX8_contains_X8_bit
theorem dX8_contains_0 : decode cX8_contains 0 = .ok (.lload_n 0, 1) := by decide +kernel
theorem dX8_contains_1 : decode cX8_contains 1 = .ok (.iload_n 2, 1) := by decide +kernel
theorem dX8_contains_2 : decode cX8_contains 2 = .ok (.invokestatic 215, 3) := by decide +kernel
theorem dX8_contains_5 : decode cX8_contains 5 = .ok (.land, 1) := by decide +kernel
theorem dX8_contains_6 : decode cX8_contains 6 = .ok (.lconst 0, 1) := by decide +kernel
theorem dX8_contains_7 : decode cX8_contains 7 = .ok (.lcmp, 1) := by decide +kernel
theorem dX8_contains_8 : decode cX8_contains 8 = .ok (.ifCond .eq 7, 3) := by decide +kernel
theorem dX8_contains_11 : decode cX8_contains 11 = .ok (.iconst 1, 1) := by decide +kernel
theorem dX8_contains_12 : decode cX8_contains 12 = .ok (.goto 4, 3) := by decide +kernel
theorem dX8_contains_15 : decode cX8_contains 15 = .ok (.iconst 0, 1) := by decide +kernel
theorem dX8_contains_16 : decode cX8_contains 16 = .ok (.ireturn, 1) := by decide +kernel
set_option maxRecDepth 20000 in
theorem ggX8_lowestOf_J13_bitCount_95d88 : GoodIn wsX8_lowestOf wsJ13_bitCount_95d88 := goodIn_r _ [4, 5, 6, 7] (by decide +kernel) (by decide +kernel)
set_option maxRecDepth 20000 in
theorem gX8_lowestOf_J13_bitCount_95d88 : GoodIn wsX8_lowestOf (va_wsS RX8 185 yJ13_bitCount_95d88 wsJ13_bitCount_95d88) := goodIn_app (goodIn_of _ (by decide +kernel)) ggX8_lowestOf_J13_bitCount_95d88
theorem dX8_lowestOf_0 : decode cX8_lowestOf 0 = .ok (.lload_n 0, 1) := by decide +kernel
theorem dX8_lowestOf_1 : decode cX8_lowestOf 1 = .ok (.lconst 0, 1) := by decide +kernel
theorem dX8_lowestOf_2 : decode cX8_lowestOf 2 = .ok (.lcmp, 1) := by decide +kernel
theorem dX8_lowestOf_3 : decode cX8_lowestOf 3 = .ok (.ifCond .ne 7, 3) := by decide +kernel
theorem dX8_lowestOf_6 : decode cX8_lowestOf 6 = .ok (.iconst (-1), 1) := by decide +kernel
theorem dX8_lowestOf_7 : decode cX8_lowestOf 7 = .ok (.goto 12, 3) := by decide +kernel
theorem dX8_lowestOf_10 : decode cX8_lowestOf 10 = .ok (.lload_n 0, 1) := by decide +kernel
theorem dX8_lowestOf_11 : decode cX8_lowestOf 11 = .ok (.lload_n 0, 1) := by decide +kernel
theorem dX8_lowestOf_12 : decode cX8_lowestOf 12 = .ok (.lneg, 1) := by decide +kernel
theorem dX8_lowestOf_13 : decode cX8_lowestOf 13 = .ok (.land, 1) := by decide +kernel
theorem dX8_lowestOf_14 : decode cX8_lowestOf 14 = .ok (.lconst 1, 1) := by decide +kernel
theorem dX8_lowestOf_15 : decode cX8_lowestOf 15 = .ok (.lsub, 1) := by decide +kernel
theorem dX8_lowestOf_16 : decode cX8_lowestOf 16 = .ok (.invokestatic 185, 3) := by decide +kernel
theorem dX8_lowestOf_19 : decode cX8_lowestOf 19 = .ok (.ireturn, 1) := by decide +kernel
set_option maxRecDepth 20000 in
theorem ggX8_memberOf_X8_lowestOf : GoodIn wsX8_memberOf wsX8_lowestOf := goodIn_r _ [4, 5, 6, 7, 8, 9, 10, 11] (by decide +kernel) (by decide +kernel)
set_option maxRecDepth 20000 in
theorem gX8_memberOf_X8_lowestOf : GoodIn wsX8_memberOf (va_wsS RX8 236 yX8_lowestOf wsX8_lowestOf) := goodIn_app (goodIn_of _ (by decide +kernel)) ggX8_memberOf_X8_lowestOf
theorem dX8_memberOf_0 : decode cX8_memberOf 0 = .ok (.lload_n 0, 1) := by decide +kernel
theorem dX8_memberOf_1 : decode cX8_memberOf 1 = .ok (.lstore_n 3, 1) := by decide +kernel
theorem dX8_memberOf_2 : decode cX8_memberOf 2 = .ok (.iconst 0, 1) := by decide +kernel
theorem dX8_memberOf_3 : decode cX8_memberOf 3 = .ok (.istore 5, 2) := by decide +kernel
theorem dX8_memberOf_5 : decode cX8_memberOf 5 = .ok (.iload 5, 2) := by decide +kernel
theorem dX8_memberOf_7 : decode cX8_memberOf 7 = .ok (.iload_n 2, 1) := by decide +kernel
theorem dX8_memberOf_8 : decode cX8_memberOf 8 = .ok (.if_icmp .ge 15, 3) := by decide +kernel
theorem dX8_memberOf_11 : decode cX8_memberOf 11 = .ok (.lload_n 3, 1) := by decide +kernel
theorem dX8_memberOf_12 : decode cX8_memberOf 12 = .ok (.lload_n 3, 1) := by decide +kernel
theorem dX8_memberOf_13 : decode cX8_memberOf 13 = .ok (.lconst 1, 1) := by decide +kernel
theorem dX8_memberOf_14 : decode cX8_memberOf 14 = .ok (.lsub, 1) := by decide +kernel
theorem dX8_memberOf_15 : decode cX8_memberOf 15 = .ok (.land, 1) := by decide +kernel
theorem dX8_memberOf_16 : decode cX8_memberOf 16 = .ok (.lstore_n 3, 1) := by decide +kernel
theorem dX8_memberOf_17 : decode cX8_memberOf 17 = .ok (.iinc 5 1, 3) := by decide +kernel
theorem dX8_memberOf_20 : decode cX8_memberOf 20 = .ok (.goto (-15), 3) := by decide +kernel
theorem dX8_memberOf_23 : decode cX8_memberOf 23 = .ok (.lload_n 3, 1) := by decide +kernel
theorem dX8_memberOf_24 : decode cX8_memberOf 24 = .ok (.invokestatic 236, 3) := by decide +kernel
theorem dX8_memberOf_27 : decode cX8_memberOf 27 = .ok (.ireturn, 1) := by decide +kernel
theorem dJ13_bitCount_95d88_0 : decode cJ13_bitCount_95d88 0 = .ok (.lload_n 0, 1) := by decide +kernel
theorem dJ13_bitCount_95d88_1 : decode cJ13_bitCount_95d88 1 = .ok (.lload_n 0, 1) := by decide +kernel
theorem dJ13_bitCount_95d88_2 : decode cJ13_bitCount_95d88 2 = .ok (.iconst 1, 1) := by decide +kernel
theorem dJ13_bitCount_95d88_3 : decode cJ13_bitCount_95d88 3 = .ok (.lushr, 1) := by decide +kernel
theorem dJ13_bitCount_95d88_4 : decode cJ13_bitCount_95d88 4 = .ok (.ldc2_w 314, 3) := by decide +kernel
theorem dJ13_bitCount_95d88_7 : decode cJ13_bitCount_95d88 7 = .ok (.land, 1) := by decide +kernel
theorem dJ13_bitCount_95d88_8 : decode cJ13_bitCount_95d88 8 = .ok (.lsub, 1) := by decide +kernel
theorem dJ13_bitCount_95d88_9 : decode cJ13_bitCount_95d88 9 = .ok (.lstore_n 0, 1) := by decide +kernel
theorem dJ13_bitCount_95d88_10 : decode cJ13_bitCount_95d88 10 = .ok (.lload_n 0, 1) := by decide +kernel
theorem dJ13_bitCount_95d88_11 : decode cJ13_bitCount_95d88 11 = .ok (.ldc2_w 316, 3) := by decide +kernel
theorem dJ13_bitCount_95d88_14 : decode cJ13_bitCount_95d88 14 = .ok (.land, 1) := by decide +kernel
theorem dJ13_bitCount_95d88_15 : decode cJ13_bitCount_95d88 15 = .ok (.lload_n 0, 1) := by decide +kernel
theorem dJ13_bitCount_95d88_16 : decode cJ13_bitCount_95d88 16 = .ok (.iconst 2, 1) := by decide +kernel
theorem dJ13_bitCount_95d88_17 : decode cJ13_bitCount_95d88 17 = .ok (.lushr, 1) := by decide +kernel
theorem dJ13_bitCount_95d88_18 : decode cJ13_bitCount_95d88 18 = .ok (.ldc2_w 316, 3) := by decide +kernel
theorem dJ13_bitCount_95d88_21 : decode cJ13_bitCount_95d88 21 = .ok (.land, 1) := by decide +kernel
theorem dJ13_bitCount_95d88_22 : decode cJ13_bitCount_95d88 22 = .ok (.ladd, 1) := by decide +kernel
theorem dJ13_bitCount_95d88_23 : decode cJ13_bitCount_95d88 23 = .ok (.lstore_n 0, 1) := by decide +kernel
theorem dJ13_bitCount_95d88_24 : decode cJ13_bitCount_95d88 24 = .ok (.lload_n 0, 1) := by decide +kernel
theorem dJ13_bitCount_95d88_25 : decode cJ13_bitCount_95d88 25 = .ok (.lload_n 0, 1) := by decide +kernel
theorem dJ13_bitCount_95d88_26 : decode cJ13_bitCount_95d88 26 = .ok (.iconst 4, 1) := by decide +kernel
theorem dJ13_bitCount_95d88_27 : decode cJ13_bitCount_95d88 27 = .ok (.lushr, 1) := by decide +kernel
theorem dJ13_bitCount_95d88_28 : decode cJ13_bitCount_95d88 28 = .ok (.ladd, 1) := by decide +kernel
theorem dJ13_bitCount_95d88_29 : decode cJ13_bitCount_95d88 29 = .ok (.ldc2_w 318, 3) := by decide +kernel
theorem dJ13_bitCount_95d88_32 : decode cJ13_bitCount_95d88 32 = .ok (.land, 1) := by decide +kernel
theorem dJ13_bitCount_95d88_33 : decode cJ13_bitCount_95d88 33 = .ok (.lstore_n 0, 1) := by decide +kernel
theorem dJ13_bitCount_95d88_34 : decode cJ13_bitCount_95d88 34 = .ok (.lload_n 0, 1) := by decide +kernel
theorem dJ13_bitCount_95d88_35 : decode cJ13_bitCount_95d88 35 = .ok (.lload_n 0, 1) := by decide +kernel
theorem dJ13_bitCount_95d88_36 : decode cJ13_bitCount_95d88 36 = .ok (.bipush 8, 2) := by decide +kernel
theorem dJ13_bitCount_95d88_38 : decode cJ13_bitCount_95d88 38 = .ok (.lushr, 1) := by decide +kernel
theorem dJ13_bitCount_95d88_39 : decode cJ13_bitCount_95d88 39 = .ok (.ladd, 1) := by decide +kernel
theorem dJ13_bitCount_95d88_40 : decode cJ13_bitCount_95d88 40 = .ok (.lstore_n 0, 1) := by decide +kernel
theorem dJ13_bitCount_95d88_41 : decode cJ13_bitCount_95d88 41 = .ok (.lload_n 0, 1) := by decide +kernel
theorem dJ13_bitCount_95d88_42 : decode cJ13_bitCount_95d88 42 = .ok (.lload_n 0, 1) := by decide +kernel
theorem dJ13_bitCount_95d88_43 : decode cJ13_bitCount_95d88 43 = .ok (.bipush 16, 2) := by decide +kernel
theorem dJ13_bitCount_95d88_45 : decode cJ13_bitCount_95d88 45 = .ok (.lushr, 1) := by decide +kernel
theorem dJ13_bitCount_95d88_46 : decode cJ13_bitCount_95d88 46 = .ok (.ladd, 1) := by decide +kernel
theorem dJ13_bitCount_95d88_47 : decode cJ13_bitCount_95d88 47 = .ok (.lstore_n 0, 1) := by decide +kernel
theorem dJ13_bitCount_95d88_48 : decode cJ13_bitCount_95d88 48 = .ok (.lload_n 0, 1) := by decide +kernel
theorem dJ13_bitCount_95d88_49 : decode cJ13_bitCount_95d88 49 = .ok (.lload_n 0, 1) := by decide +kernel
theorem dJ13_bitCount_95d88_50 : decode cJ13_bitCount_95d88 50 = .ok (.bipush 32, 2) := by decide +kernel
theorem dJ13_bitCount_95d88_52 : decode cJ13_bitCount_95d88 52 = .ok (.lushr, 1) := by decide +kernel
theorem dJ13_bitCount_95d88_53 : decode cJ13_bitCount_95d88 53 = .ok (.ladd, 1) := by decide +kernel
theorem dJ13_bitCount_95d88_54 : decode cJ13_bitCount_95d88 54 = .ok (.lstore_n 0, 1) := by decide +kernel
theorem dJ13_bitCount_95d88_55 : decode cJ13_bitCount_95d88 55 = .ok (.lload_n 0, 1) := by decide +kernel
theorem dJ13_bitCount_95d88_56 : decode cJ13_bitCount_95d88 56 = .ok (.l2i, 1) := by decide +kernel
theorem dJ13_bitCount_95d88_57 : decode cJ13_bitCount_95d88 57 = .ok (.bipush 127, 2) := by decide +kernel
theorem dJ13_bitCount_95d88_59 : decode cJ13_bitCount_95d88 59 = .ok (.iand, 1) := by decide +kernel
theorem dJ13_bitCount_95d88_60 : decode cJ13_bitCount_95d88 60 = .ok (.ireturn, 1) := by decide +kernel
theorem dJ9_max_7cf53_0 : decode cJ9_max_7cf53 0 = .ok (.iload_n 0, 1) := by decide +kernel
theorem dJ9_max_7cf53_1 : decode cJ9_max_7cf53 1 = .ok (.iload_n 1, 1) := by decide +kernel
theorem dJ9_max_7cf53_2 : decode cJ9_max_7cf53 2 = .ok (.if_icmp .lt 7, 3) := by decide +kernel
theorem dJ9_max_7cf53_5 : decode cJ9_max_7cf53 5 = .ok (.iload_n 0, 1) := by decide +kernel
theorem dJ9_max_7cf53_6 : decode cJ9_max_7cf53 6 = .ok (.goto 4, 3) := by decide +kernel
theorem dJ9_max_7cf53_9 : decode cJ9_max_7cf53 9 = .ok (.iload_n 1, 1) := by decide +kernel
theorem dJ9_max_7cf53_10 : decode cJ9_max_7cf53 10 = .ok (.ireturn, 1) := by decide +kernel
theorem dJ9_min_7cf53_0 : decode cJ9_min_7cf53 0 = .ok (.iload_n 0, 1) := by decide +kernel
theorem dJ9_min_7cf53_1 : decode cJ9_min_7cf53 1 = .ok (.iload_n 1, 1) := by decide +kernel
theorem dJ9_min_7cf53_2 : decode cJ9_min_7cf53 2 = .ok (.if_icmp .gt 7, 3) := by decide +kernel
theorem dJ9_min_7cf53_5 : decode cJ9_min_7cf53 5 = .ok (.iload_n 0, 1) := by decide +kernel
theorem dJ9_min_7cf53_6 : decode cJ9_min_7cf53 6 = .ok (.goto 4, 3) := by decide +kernel
theorem dJ9_min_7cf53_9 : decode cJ9_min_7cf53 9 = .ok (.iload_n 1, 1) := by decide +kernel
theorem dJ9_min_7cf53_10 : decode cJ9_min_7cf53 10 = .ok (.ireturn, 1) := by decide +kernel
theorem dJ9_min_f86c9_0 : decode cJ9_min_f86c9 0 = .ok (.lload_n 0, 1) := by decide +kernel
theorem dJ9_min_f86c9_1 : decode cJ9_min_f86c9 1 = .ok (.lload_n 2, 1) := by decide +kernel
theorem dJ9_min_f86c9_2 : decode cJ9_min_f86c9 2 = .ok (.lcmp, 1) := by decide +kernel
theorem dJ9_min_f86c9_3 : decode cJ9_min_f86c9 3 = .ok (.ifCond .gt 7, 3) := by decide +kernel
theorem dJ9_min_f86c9_6 : decode cJ9_min_f86c9 6 = .ok (.lload_n 0, 1) := by decide +kernel
theorem dJ9_min_f86c9_7 : decode cJ9_min_f86c9 7 = .ok (.goto 4, 3) := by decide +kernel
theorem dJ9_min_f86c9_10 : decode cJ9_min_f86c9 10 = .ok (.lload_n 2, 1) := by decide +kernel
theorem dJ9_min_f86c9_11 : decode cJ9_min_f86c9 11 = .ok (.lreturn, 1) := by decide +kernel
