theorem dX9_stringOf_17 : decode cX9_stringOf 17 = .ok (.aload_n 0, 1) := by decide +kernel
theorem dX9_stringOf_18 : decode cX9_stringOf 18 = .ok (.invokevirtual 176, 3) := by decide +kernel
theorem dX9_stringOf_21 : decode cX9_stringOf 21 = .ok (.pop, 1) := by decide +kernel
theorem dX9_stringOf_22 : decode cX9_stringOf 22 = .ok (.aload_n 0, 1) := by decide +kernel
theorem dX9_stringOf_23 : decode cX9_stringOf 23 = .ok (.getfield 59, 3) := by decide +kernel
theorem dX9_stringOf_26 : decode cX9_stringOf 26 = .ok (.ifCond .le 7, 3) := by decide +kernel
theorem dX9_stringOf_29 : decode cX9_stringOf 29 = .ok (.iconst 0, 1) := by decide +kernel
theorem dX9_stringOf_30 : decode cX9_stringOf 30 = .ok (.goto 9, 3) := by decide +kernel
theorem dX9_stringOf_33 : decode cX9_stringOf 33 = .ok (.aload_n 0, 1) := by decide +kernel
theorem dX9_stringOf_34 : decode cX9_stringOf 34 = .ok (.getfield 29, 3) := by decide +kernel
theorem dX9_stringOf_37 : decode cX9_stringOf 37 = .ok (.iload_n 1, 1) := by decide +kernel
theorem dX9_stringOf_38 : decode cX9_stringOf 38 = .ok (.iaload, 1) := by decide +kernel
theorem dX9_stringOf_39 : decode cX9_stringOf 39 = .ok (.ireturn, 1) := by decide +kernel
set_option maxRecDepth 20000 in
theorem ggX9_linesAt_X9_all : GoodIn wsX9_linesAt wsX9_all := goodIn_r _ [7, 8, 9, 10, 11, 12, 6, 13, 52, 53, 54, 55, 56, 57, 58, 59, 60, 61, 62, 63, 64, 65, 66, 67, 68, 69, 70, 71, 72, 73, 74, 75, 76] (by decide +kernel) (by decide +kernel)
set_option maxRecDepth 20000 in
theorem gX9_linesAt_X9_all : GoodIn wsX9_linesAt (wsV RX9 70 RX9 yX9_all wsX9_all) := goodIn_app (goodIn_of _ (by decide +kernel)) ggX9_linesAt_X9_all
set_option maxRecDepth 20000 in
theorem ggX9_linesAt_X9_beside : GoodIn wsX9_linesAt wsX9_beside := goodIn_r _ [17, 9, 8, 18, 19, 20, 6, 21, 22, 23, 24, 25, 10, 11, 12, 13, 26, 27, 28, 29, 30, 31, 32, 52, 53, 54, 55, 56, 57, 58, 59, 60, 61, 62, 63, 64, 65, 66, 67, 68, 69, 70, 71, 72, 73, 74, 75, 76] (by decide +kernel) (by decide +kernel)
set_option maxRecDepth 20000 in
theorem gX9_linesAt_X9_beside : GoodIn wsX9_linesAt (wsV RX9 99 RX9 yX9_beside wsX9_beside) := goodIn_app (goodIn_of _ (by decide +kernel)) ggX9_linesAt_X9_beside
set_option maxRecDepth 20000 in
theorem ggX9_linesAt_X9_isThin : GoodIn wsX9_linesAt wsX9_isThin := goodIn_r _ [36, 2, 37, 38, 39, 6, 40, 41, 42, 43, 44, 9, 45, 46, 47, 48, 10, 11, 12, 13, 8, 49, 50, 51, 30, 31, 32, 52, 53, 54, 55, 56, 57, 58, 59, 60, 61, 62, 63, 64, 65, 66, 67, 68, 69, 70, 71, 72, 73, 74, 75, 76] (by decide +kernel) (by decide +kernel)
set_option maxRecDepth 20000 in
theorem gX9_linesAt_X9_isThin : GoodIn wsX9_linesAt (wsV RX9 188 RX9 yX9_isThin wsX9_isThin) := goodIn_app (goodIn_of _ (by decide +kernel)) ggX9_linesAt_X9_isThin
set_option maxRecDepth 20000 in
theorem ggX9_linesAt_X9_has : GoodIn wsX9_linesAt wsX9_has := goodIn_r _ [51] (by decide +kernel) (by decide +kernel)
set_option maxRecDepth 20000 in
theorem gX9_linesAt_X9_has : GoodIn wsX9_linesAt (va_wsS RX9 62 yX9_has wsX9_has) := goodIn_app (goodIn_of _ (by decide +kernel)) ggX9_linesAt_X9_has
theorem dX9_linesAt_0 : decode cX9_linesAt 0 = .ok (.iconst 0, 1) := by decide +kernel
theorem dX9_linesAt_1 : decode cX9_linesAt 1 = .ok (.istore_n 3, 1) := by decide +kernel
theorem dX9_linesAt_2 : decode cX9_linesAt 2 = .ok (.iconst 0, 1) := by decide +kernel
theorem dX9_linesAt_3 : decode cX9_linesAt 3 = .ok (.istore 4, 2) := by decide +kernel
theorem dX9_linesAt_5 : decode cX9_linesAt 5 = .ok (.iload 4, 2) := by decide +kernel
theorem dX9_linesAt_7 : decode cX9_linesAt 7 = .ok (.aload_n 0, 1) := by decide +kernel
theorem dX9_linesAt_8 : decode cX9_linesAt 8 = .ok (.invokevirtual 70, 3) := by decide +kernel
theorem dX9_linesAt_11 : decode cX9_linesAt 11 = .ok (.if_icmp .ge 130, 3) := by decide +kernel
theorem dX9_linesAt_14 : decode cX9_linesAt 14 = .ok (.iconst 0, 1) := by decide +kernel
theorem dX9_linesAt_15 : decode cX9_linesAt 15 = .ok (.istore 5, 2) := by decide +kernel
theorem dX9_linesAt_17 : decode cX9_linesAt 17 = .ok (.iconst 0, 1) := by decide +kernel
theorem dX9_linesAt_18 : decode cX9_linesAt 18 = .ok (.istore 6, 2) := by decide +kernel
theorem dX9_linesAt_20 : decode cX9_linesAt 20 = .ok (.iconst 0, 1) := by decide +kernel
theorem dX9_linesAt_21 : decode cX9_linesAt 21 = .ok (.istore 7, 2) := by decide +kernel
theorem dX9_linesAt_23 : decode cX9_linesAt 23 = .ok (.iload 7, 2) := by decide +kernel
theorem dX9_linesAt_25 : decode cX9_linesAt 25 = .ok (.iconst 2, 1) := by decide +kernel
theorem dX9_linesAt_26 : decode cX9_linesAt 26 = .ok (.if_icmp .ge 75, 3) := by decide +kernel
theorem dX9_linesAt_29 : decode cX9_linesAt 29 = .ok (.aload_n 0, 1) := by decide +kernel
theorem dX9_linesAt_30 : decode cX9_linesAt 30 = .ok (.iload 4, 2) := by decide +kernel
theorem dX9_linesAt_32 : decode cX9_linesAt 32 = .ok (.iload 7, 2) := by decide +kernel
theorem dX9_linesAt_34 : decode cX9_linesAt 34 = .ok (.invokevirtual 99, 3) := by decide +kernel
theorem dX9_linesAt_37 : decode cX9_linesAt 37 = .ok (.istore 8, 2) := by decide +kernel
theorem dX9_linesAt_39 : decode cX9_linesAt 39 = .ok (.iload 5, 2) := by decide +kernel
theorem dX9_linesAt_41 : decode cX9_linesAt 41 = .ok (.ifCond .ne 20, 3) := by decide +kernel
theorem dX9_linesAt_44 : decode cX9_linesAt 44 = .ok (.iload 8, 2) := by decide +kernel
theorem dX9_linesAt_46 : decode cX9_linesAt 46 = .ok (.iconst (-1), 1) := by decide +kernel
theorem dX9_linesAt_47 : decode cX9_linesAt 47 = .ok (.if_icmp .eq 18, 3) := by decide +kernel
theorem dX9_linesAt_50 : decode cX9_linesAt 50 = .ok (.aload_n 0, 1) := by decide +kernel
theorem dX9_linesAt_51 : decode cX9_linesAt 51 = .ok (.getfield 29, 3) := by decide +kernel
theorem dX9_linesAt_54 : decode cX9_linesAt 54 = .ok (.iload 8, 2) := by decide +kernel
theorem dX9_linesAt_56 : decode cX9_linesAt 56 = .ok (.iaload, 1) := by decide +kernel
theorem dX9_linesAt_57 : decode cX9_linesAt 57 = .ok (.iload_n 1, 1) := by decide +kernel
theorem dX9_linesAt_58 : decode cX9_linesAt 58 = .ok (.if_icmp .ne 7, 3) := by decide +kernel
theorem dX9_linesAt_61 : decode cX9_linesAt 61 = .ok (.iconst 1, 1) := by decide +kernel
theorem dX9_linesAt_62 : decode cX9_linesAt 62 = .ok (.goto 4, 3) := by decide +kernel
theorem dX9_linesAt_65 : decode cX9_linesAt 65 = .ok (.iconst 0, 1) := by decide +kernel
theorem dX9_linesAt_66 : decode cX9_linesAt 66 = .ok (.istore 5, 2) := by decide +kernel
theorem dX9_linesAt_68 : decode cX9_linesAt 68 = .ok (.iload 6, 2) := by decide +kernel
theorem dX9_linesAt_70 : decode cX9_linesAt 70 = .ok (.ifCond .ne 18, 3) := by decide +kernel
theorem dX9_linesAt_73 : decode cX9_linesAt 73 = .ok (.iload 8, 2) := by decide +kernel
theorem dX9_linesAt_75 : decode cX9_linesAt 75 = .ok (.iconst (-1), 1) := by decide +kernel
theorem dX9_linesAt_76 : decode cX9_linesAt 76 = .ok (.if_icmp .eq 16, 3) := by decide +kernel
theorem dX9_linesAt_79 : decode cX9_linesAt 79 = .ok (.aload_n 0, 1) := by decide +kernel
theorem dX9_linesAt_80 : decode cX9_linesAt 80 = .ok (.iload 8, 2) := by decide +kernel
theorem dX9_linesAt_82 : decode cX9_linesAt 82 = .ok (.invokevirtual 188, 3) := by decide +kernel
theorem dX9_linesAt_85 : decode cX9_linesAt 85 = .ok (.ifCond .ne 7, 3) := by decide +kernel
theorem dX9_linesAt_88 : decode cX9_linesAt 88 = .ok (.iconst 1, 1) := by decide +kernel
theorem dX9_linesAt_89 : decode cX9_linesAt 89 = .ok (.goto 4, 3) := by decide +kernel
theorem dX9_linesAt_92 : decode cX9_linesAt 92 = .ok (.iconst 0, 1) := by decide +kernel
theorem dX9_linesAt_93 : decode cX9_linesAt 93 = .ok (.istore 6, 2) := by decide +kernel
theorem dX9_linesAt_95 : decode cX9_linesAt 95 = .ok (.iinc 7 1, 3) := by decide +kernel
theorem dX9_linesAt_98 : decode cX9_linesAt 98 = .ok (.goto (-75), 3) := by decide +kernel
theorem dX9_linesAt_101 : decode cX9_linesAt 101 = .ok (.iload_n 3, 1) := by decide +kernel
theorem dX9_linesAt_102 : decode cX9_linesAt 102 = .ok (.aload_n 0, 1) := by decide +kernel
theorem dX9_linesAt_103 : decode cX9_linesAt 103 = .ok (.getfield 119, 3) := by decide +kernel
theorem dX9_linesAt_106 : decode cX9_linesAt 106 = .ok (.iload 4, 2) := by decide +kernel
theorem dX9_linesAt_108 : decode cX9_linesAt 108 = .ok (.invokestatic 62, 3) := by decide +kernel
theorem dX9_linesAt_111 : decode cX9_linesAt 111 = .ok (.ifCond .ne 21, 3) := by decide +kernel
theorem dX9_linesAt_114 : decode cX9_linesAt 114 = .ok (.iload 5, 2) := by decide +kernel
theorem dX9_linesAt_116 : decode cX9_linesAt 116 = .ok (.ifCond .eq 16, 3) := by decide +kernel
theorem dX9_linesAt_119 : decode cX9_linesAt 119 = .ok (.iload 6, 2) := by decide +kernel
theorem dX9_linesAt_121 : decode cX9_linesAt 121 = .ok (.ifCond .ne 7, 3) := by decide +kernel
theorem dX9_linesAt_124 : decode cX9_linesAt 124 = .ok (.iload_n 2, 1) := by decide +kernel
theorem dX9_linesAt_125 : decode cX9_linesAt 125 = .ok (.ifCond .ne 7, 3) := by decide +kernel
theorem dX9_linesAt_128 : decode cX9_linesAt 128 = .ok (.iconst 1, 1) := by decide +kernel
theorem dX9_linesAt_129 : decode cX9_linesAt 129 = .ok (.goto 4, 3) := by decide +kernel
theorem dX9_linesAt_132 : decode cX9_linesAt 132 = .ok (.iconst 0, 1) := by decide +kernel
theorem dX9_linesAt_133 : decode cX9_linesAt 133 = .ok (.iadd, 1) := by decide +kernel
theorem dX9_linesAt_134 : decode cX9_linesAt 134 = .ok (.istore_n 3, 1) := by decide +kernel
theorem dX9_linesAt_135 : decode cX9_linesAt 135 = .ok (.iinc 4 1, 3) := by decide +kernel
theorem dX9_linesAt_138 : decode cX9_linesAt 138 = .ok (.goto (-133), 3) := by decide +kernel
theorem dX9_linesAt_141 : decode cX9_linesAt 141 = .ok (.iload_n 3, 1) := by decide +kernel
theorem dX9_linesAt_142 : decode cX9_linesAt 142 = .ok (.ireturn, 1) := by decide +kernel
set_option maxRecDepth 20000 in
theorem ggX9_stringNow_X9_linesAt : GoodIn wsX9_stringNow wsX9_linesAt := goodIn_r _ [8, 9, 10, 11, 12, 13, 7, 14, 15, 16, 17, 18, 19, 20, 21, 22, 23, 24, 25, 26, 27, 28, 29, 30, 31, 32, 33, 34, 35, 36, 37, 38, 39, 40, 41, 42, 43, 44, 45, 46, 47, 48, 49, 50, 51, 52, 53, 54, 55, 56, 57, 58, 59, 60, 61, 62, 63, 64, 65, 66, 67, 68, 69, 70, 71, 72, 73, 74, 75, 76, 77, 78, 79, 80, 81, 82, 83] (by decide +kernel) (by decide +kernel)
set_option maxRecDepth 20000 in
theorem gX9_stringNow_X9_linesAt : GoodIn wsX9_stringNow (wsV RX9 204 RX9 yX9_linesAt wsX9_linesAt) := goodIn_app (goodIn_of _ (by decide +kernel)) ggX9_stringNow_X9_linesAt
theorem dX9_stringNow_0 : decode cX9_stringNow 0 = .ok (.iload_n 2, 1) := by decide +kernel
theorem dX9_stringNow_1 : decode cX9_stringNow 1 = .ok (.tableswitch 64 0 2 #[27, 34, 49], 27) := by decide +kernel
theorem dX9_stringNow_28 : decode cX9_stringNow 28 = .ok (.aload_n 0, 1) := by decide +kernel
theorem dX9_stringNow_29 : decode cX9_stringNow 29 = .ok (.getfield 32, 3) := by decide +kernel
theorem dX9_stringNow_32 : decode cX9_stringNow 32 = .ok (.iload_n 1, 1) := by decide +kernel
theorem dX9_stringNow_33 : decode cX9_stringNow 33 = .ok (.iaload, 1) := by decide +kernel
theorem dX9_stringNow_34 : decode cX9_stringNow 34 = .ok (.ireturn, 1) := by decide +kernel
theorem dX9_stringNow_35 : decode cX9_stringNow 35 = .ok (.aload_n 0, 1) := by decide +kernel
theorem dX9_stringNow_36 : decode cX9_stringNow 36 = .ok (.getfield 35, 3) := by decide +kernel
theorem dX9_stringNow_39 : decode cX9_stringNow 39 = .ok (.iload_n 1, 1) := by decide +kernel
theorem dX9_stringNow_40 : decode cX9_stringNow 40 = .ok (.baload, 1) := by decide +kernel
theorem dX9_stringNow_41 : decode cX9_stringNow 41 = .ok (.ifCond .eq 7, 3) := by decide +kernel
theorem dX9_stringNow_44 : decode cX9_stringNow 44 = .ok (.iconst 1, 1) := by decide +kernel
theorem dX9_stringNow_45 : decode cX9_stringNow 45 = .ok (.goto 4, 3) := by decide +kernel
theorem dX9_stringNow_48 : decode cX9_stringNow 48 = .ok (.iconst 0, 1) := by decide +kernel
theorem dX9_stringNow_49 : decode cX9_stringNow 49 = .ok (.ireturn, 1) := by decide +kernel
theorem dX9_stringNow_50 : decode cX9_stringNow 50 = .ok (.aload_n 0, 1) := by decide +kernel
theorem dX9_stringNow_51 : decode cX9_stringNow 51 = .ok (.getfield 39, 3) := by decide +kernel
theorem dX9_stringNow_54 : decode cX9_stringNow 54 = .ok (.iload_n 1, 1) := by decide +kernel
theorem dX9_stringNow_55 : decode cX9_stringNow 55 = .ok (.baload, 1) := by decide +kernel
theorem dX9_stringNow_56 : decode cX9_stringNow 56 = .ok (.ifCond .eq 7, 3) := by decide +kernel
theorem dX9_stringNow_59 : decode cX9_stringNow 59 = .ok (.iconst 1, 1) := by decide +kernel
theorem dX9_stringNow_60 : decode cX9_stringNow 60 = .ok (.goto 4, 3) := by decide +kernel
theorem dX9_stringNow_63 : decode cX9_stringNow 63 = .ok (.iconst 0, 1) := by decide +kernel
theorem dX9_stringNow_64 : decode cX9_stringNow 64 = .ok (.ireturn, 1) := by decide +kernel
theorem dX9_stringNow_65 : decode cX9_stringNow 65 = .ok (.aload_n 0, 1) := by decide +kernel
theorem dX9_stringNow_66 : decode cX9_stringNow 66 = .ok (.iload_n 1, 1) := by decide +kernel
theorem dX9_stringNow_67 : decode cX9_stringNow 67 = .ok (.iload_n 2, 1) := by decide +kernel
theorem dX9_stringNow_68 : decode cX9_stringNow 68 = .ok (.iconst 4, 1) := by decide +kernel
theorem dX9_stringNow_69 : decode cX9_stringNow 69 = .ok (.if_icmp .ne 7, 3) := by decide +kernel
theorem dX9_stringNow_72 : decode cX9_stringNow 72 = .ok (.iconst 1, 1) := by decide +kernel
theorem dX9_stringNow_73 : decode cX9_stringNow 73 = .ok (.goto 4, 3) := by decide +kernel
theorem dX9_stringNow_76 : decode cX9_stringNow 76 = .ok (.iconst 0, 1) := by decide +kernel
theorem dX9_stringNow_77 : decode cX9_stringNow 77 = .ok (.invokevirtual 204, 3) := by decide +kernel
theorem dX9_stringNow_80 : decode cX9_stringNow 80 = .ok (.ireturn, 1) := by decide +kernel
set_option maxRecDepth 20000 in
theorem ggX9_string_X9_layStrings : GoodIn wsX9_string wsX9_layStrings := goodIn_r _ [7, 1, 8, 9, 10, 11, 12, 13, 14, 15, 6, 16, 17, 18, 19, 20, 21, 22, 23, 24, 25, 26, 27, 28, 29, 30, 31, 32, 33, 34, 35, 36, 37, 38, 39, 40, 41, 42, 43, 44, 45, 46, 47, 48, 49, 50, 51, 52, 53, 54, 55, 56, 57, 58, 59, 60, 61, 62, 63, 64, 65, 66, 67, 68, 69, 70, 71, 72, 85, 86, 87, 88, 89, 90, 91, 92, 93, 94, 95, 96, 97, 98, 99, 100, 101, 102, 103, 104, 105, 106, 107, 108, 109] (by decide +kernel) (by decide +kernel)
set_option maxRecDepth 20000 in
theorem gX9_string_X9_layStrings : GoodIn wsX9_string (wsV RX9 176 RX9 yX9_layStrings wsX9_layStrings) := goodIn_app (goodIn_of _ (by decide +kernel)) ggX9_string_X9_layStrings
set_option maxRecDepth 20000 in
theorem ggX9_string_X9_within : GoodIn wsX9_string wsX9_within := goodIn_r _ [44] (by decide +kernel) (by decide +kernel)
set_option maxRecDepth 20000 in
theorem gX9_string_X9_within : GoodIn wsX9_string (va_wsS RX9 73 yX9_within wsX9_within) := goodIn_app (goodIn_of _ (by decide +kernel)) ggX9_string_X9_within
set_option maxRecDepth 20000 in
theorem ggX9_string_X9_stringNow : GoodIn wsX9_string wsX9_stringNow := goodIn_r _ [76, 9, 10, 11, 77, 78, 79, 6, 80, 8, 12, 81, 82, 83, 84, 18, 17, 35, 36, 37, 38, 53, 54, 55, 56, 57, 58, 59, 60, 61, 62, 63, 64, 65, 66, 67, 68, 42, 43, 44, 19, 20, 21, 22, 23, 24, 25, 26, 27, 28, 29, 30, 31, 32, 33, 34, 39, 40, 41, 85, 86, 87, 88, 89, 90, 91, 92, 93, 94, 95, 96, 97, 98, 99, 100, 101, 102, 103, 104, 105, 106, 107, 108, 109] (by decide +kernel) (by decide +kernel)
set_option maxRecDepth 20000 in
theorem gX9_string_X9_stringNow : GoodIn wsX9_string (wsV RX9 208 RX9 yX9_stringNow wsX9_stringNow) := goodIn_app (goodIn_of _ (by decide +kernel)) ggX9_string_X9_stringNow
theorem dX9_string_0 : decode cX9_string 0 = .ok (.aload_n 0, 1) := by decide +kernel
theorem dX9_string_1 : decode cX9_string 1 = .ok (.invokevirtual 176, 3) := by decide +kernel
theorem dX9_string_4 : decode cX9_string 4 = .ok (.pop, 1) := by decide +kernel
theorem dX9_string_5 : decode cX9_string 5 = .ok (.aload_n 0, 1) := by decide +kernel
theorem dX9_string_6 : decode cX9_string 6 = .ok (.iload_n 1, 1) := by decide +kernel
theorem dX9_string_7 : decode cX9_string 7 = .ok (.iconst 0, 1) := by decide +kernel
theorem dX9_string_8 : decode cX9_string 8 = .ok (.aload_n 0, 1) := by decide +kernel
theorem dX9_string_9 : decode cX9_string 9 = .ok (.getfield 194, 3) := by decide +kernel
theorem dX9_string_12 : decode cX9_string 12 = .ok (.iconst 1, 1) := by decide +kernel
theorem dX9_string_13 : decode cX9_string 13 = .ok (.isub, 1) := by decide +kernel
theorem dX9_string_14 : decode cX9_string 14 = .ok (.invokestatic 73, 3) := by decide +kernel
theorem dX9_string_17 : decode cX9_string 17 = .ok (.ifCond .ne 7, 3) := by decide +kernel
theorem dX9_string_20 : decode cX9_string 20 = .ok (.iconst 1, 1) := by decide +kernel
theorem dX9_string_21 : decode cX9_string 21 = .ok (.goto 17, 3) := by decide +kernel
theorem dX9_string_24 : decode cX9_string 24 = .ok (.iload_n 2, 1) := by decide +kernel
theorem dX9_string_25 : decode cX9_string 25 = .ok (.iconst 0, 1) := by decide +kernel
theorem dX9_string_26 : decode cX9_string 26 = .ok (.iconst 4, 1) := by decide +kernel
theorem dX9_string_27 : decode cX9_string 27 = .ok (.invokestatic 73, 3) := by decide +kernel
theorem dX9_string_30 : decode cX9_string 30 = .ok (.ifCond .eq 7, 3) := by decide +kernel
theorem dX9_string_33 : decode cX9_string 33 = .ok (.iconst 0, 1) := by decide +kernel
theorem dX9_string_34 : decode cX9_string 34 = .ok (.goto 4, 3) := by decide +kernel
theorem dX9_string_37 : decode cX9_string 37 = .ok (.iconst 2, 1) := by decide +kernel
theorem dX9_string_38 : decode cX9_string 38 = .ok (.putfield 59, 3) := by decide +kernel
theorem dX9_string_41 : decode cX9_string 41 = .ok (.aload_n 0, 1) := by decide +kernel
theorem dX9_string_42 : decode cX9_string 42 = .ok (.getfield 59, 3) := by decide +kernel
theorem dX9_string_45 : decode cX9_string 45 = .ok (.ifCond .le 7, 3) := by decide +kernel
theorem dX9_string_48 : decode cX9_string 48 = .ok (.iconst 0, 1) := by decide +kernel
theorem dX9_string_49 : decode cX9_string 49 = .ok (.goto 9, 3) := by decide +kernel
theorem dX9_string_52 : decode cX9_string 52 = .ok (.aload_n 0, 1) := by decide +kernel
theorem dX9_string_53 : decode cX9_string 53 = .ok (.iload_n 1, 1) := by decide +kernel
theorem dX9_string_54 : decode cX9_string 54 = .ok (.iload_n 2, 1) := by decide +kernel
theorem dX9_string_55 : decode cX9_string 55 = .ok (.invokevirtual 208, 3) := by decide +kernel
theorem dX9_string_58 : decode cX9_string 58 = .ok (.ireturn, 1) := by decide +kernel
theorem dX9_isLong_0 : decode cX9_isLong 0 = .ok (.aload_n 0, 1) := by decide +kernel
theorem dX9_isLong_1 : decode cX9_isLong 1 = .ok (.getfield 35, 3) := by decide +kernel
theorem dX9_isLong_4 : decode cX9_isLong 4 = .ok (.iload_n 1, 1) := by decide +kernel
theorem dX9_isLong_5 : decode cX9_isLong 5 = .ok (.baload, 1) := by decide +kernel
theorem dX9_isLong_6 : decode cX9_isLong 6 = .ok (.ifCond .ne 17, 3) := by decide +kernel
theorem dX9_isLong_9 : decode cX9_isLong 9 = .ok (.aload_n 0, 1) := by decide +kernel
theorem dX9_isLong_10 : decode cX9_isLong 10 = .ok (.getfield 32, 3) := by decide +kernel
theorem dX9_isLong_13 : decode cX9_isLong 13 = .ok (.iload_n 1, 1) := by decide +kernel
theorem dX9_isLong_14 : decode cX9_isLong 14 = .ok (.iaload, 1) := by decide +kernel
theorem dX9_isLong_15 : decode cX9_isLong 15 = .ok (.iconst 3, 1) := by decide +kernel
theorem dX9_isLong_16 : decode cX9_isLong 16 = .ok (.if_icmp .lt 7, 3) := by decide +kernel
theorem dX9_isLong_19 : decode cX9_isLong 19 = .ok (.iconst 1, 1) := by decide +kernel
theorem dX9_isLong_20 : decode cX9_isLong 20 = .ok (.goto 4, 3) := by decide +kernel
theorem dX9_isLong_23 : decode cX9_isLong 23 = .ok (.iconst 0, 1) := by decide +kernel
theorem dX9_isLong_24 : decode cX9_isLong 24 = .ok (.ireturn, 1) := by decide +kernel
set_option maxRecDepth 20000 in
theorem ggX9_thick_X9_boxes : GoodIn wsX9_thick wsX9_boxes := goodIn_r _ [6, 7, 8, 28, 29, 30, 31, 32, 33, 34, 35, 36, 37, 38, 39, 40, 41, 42, 43, 44, 45, 46, 47, 48, 49, 50, 51, 52] (by decide +kernel) (by decide +kernel)
set_option maxRecDepth 20000 in
theorem gX9_thick_X9_boxes : GoodIn wsX9_thick (wsV RX9 77 RX9 yX9_boxes wsX9_boxes) := goodIn_app (goodIn_of _ (by decide +kernel)) ggX9_thick_X9_boxes
set_option maxRecDepth 20000 in
theorem ggX9_thick_X9_openOf : GoodIn wsX9_thick wsX9_openOf := goodIn_r _ [12, 13, 14, 15, 5, 16, 7, 17, 18, 19, 20, 21, 22, 23, 24, 8, 25, 26, 27, 28, 29, 30, 31, 32, 33, 34, 35, 36, 37, 38, 39, 40, 41, 42, 43, 44, 45, 46, 47, 48, 49, 50, 51, 52] (by decide +kernel) (by decide +kernel)
set_option maxRecDepth 20000 in
theorem gX9_thick_X9_openOf : GoodIn wsX9_thick (wsV RX9 102 RX9 yX9_openOf wsX9_openOf) := goodIn_app (goodIn_of _ (by decide +kernel)) ggX9_thick_X9_openOf
theorem dX9_thick_0 : decode cX9_thick 0 = .ok (.iconst 0, 1) := by decide +kernel
theorem dX9_thick_1 : decode cX9_thick 1 = .ok (.istore_n 1, 1) := by decide +kernel
theorem dX9_thick_2 : decode cX9_thick 2 = .ok (.iconst 0, 1) := by decide +kernel
theorem dX9_thick_3 : decode cX9_thick 3 = .ok (.istore_n 2, 1) := by decide +kernel
theorem dX9_thick_4 : decode cX9_thick 4 = .ok (.iload_n 2, 1) := by decide +kernel
theorem dX9_thick_5 : decode cX9_thick 5 = .ok (.aload_n 0, 1) := by decide +kernel
theorem dX9_thick_6 : decode cX9_thick 6 = .ok (.invokevirtual 77, 3) := by decide +kernel
theorem dX9_thick_9 : decode cX9_thick 9 = .ok (.if_icmp .ge 30, 3) := by decide +kernel
theorem dX9_thick_12 : decode cX9_thick 12 = .ok (.iload_n 1, 1) := by decide +kernel
theorem dX9_thick_13 : decode cX9_thick 13 = .ok (.aload_n 0, 1) := by decide +kernel
theorem dX9_thick_14 : decode cX9_thick 14 = .ok (.iload_n 2, 1) := by decide +kernel
theorem dX9_thick_15 : decode cX9_thick 15 = .ok (.aload_n 0, 1) := by decide +kernel
theorem dX9_thick_16 : decode cX9_thick 16 = .ok (.getfield 119, 3) := by decide +kernel
theorem dX9_thick_19 : decode cX9_thick 19 = .ok (.invokevirtual 102, 3) := by decide +kernel
theorem dX9_thick_22 : decode cX9_thick 22 = .ok (.iconst 2, 1) := by decide +kernel
theorem dX9_thick_23 : decode cX9_thick 23 = .ok (.if_icmp .le 7, 3) := by decide +kernel
theorem dX9_thick_26 : decode cX9_thick 26 = .ok (.iconst 1, 1) := by decide +kernel
theorem dX9_thick_27 : decode cX9_thick 27 = .ok (.goto 4, 3) := by decide +kernel
theorem dX9_thick_30 : decode cX9_thick 30 = .ok (.iconst 0, 1) := by decide +kernel
theorem dX9_thick_31 : decode cX9_thick 31 = .ok (.iadd, 1) := by decide +kernel
theorem dX9_thick_32 : decode cX9_thick 32 = .ok (.istore_n 1, 1) := by decide +kernel
theorem dX9_thick_33 : decode cX9_thick 33 = .ok (.iinc 2 1, 3) := by decide +kernel
theorem dX9_thick_36 : decode cX9_thick 36 = .ok (.goto (-32), 3) := by decide +kernel
theorem dX9_thick_39 : decode cX9_thick 39 = .ok (.iload_n 1, 1) := by decide +kernel
theorem dX9_thick_40 : decode cX9_thick 40 = .ok (.ireturn, 1) := by decide +kernel
set_option maxRecDepth 20000 in
theorem ggX9_controlNow_X9_layStrings : GoodIn wsX9_controlNow wsX9_layStrings := goodIn_r _ [11, 1, 12, 3, 2, 4, 13, 14, 15, 16, 10, 17, 5, 6, 18, 19, 20, 21, 22, 23, 24, 25, 26, 27, 28, 29, 30, 31, 32, 33, 34, 35, 36, 37, 38, 39, 40, 41, 42, 43, 44, 45, 46, 47, 48, 49, 50, 51, 52, 53, 54, 55, 56, 57, 58, 59, 60, 61, 62, 63, 64, 65, 66, 67, 68, 69, 70, 71, 80, 81, 82, 83, 84, 85, 86, 87, 88, 89, 90, 91, 92, 93, 94, 95, 96, 97, 98, 99, 100, 101, 102, 103, 104] (by decide +kernel) (by decide +kernel)
set_option maxRecDepth 20000 in
theorem gX9_controlNow_X9_layStrings : GoodIn wsX9_controlNow (wsV RX9 176 RX9 yX9_layStrings wsX9_layStrings) := goodIn_app (goodIn_of _ (by decide +kernel)) ggX9_controlNow_X9_layStrings
set_option maxRecDepth 20000 in
theorem ggX9_controlNow_X9_isLong : GoodIn wsX9_controlNow wsX9_isLong := goodIn_r _ [75, 2, 3, 80, 81, 82, 83, 84, 85, 86, 87, 88, 89, 90, 91, 92, 93, 94, 95, 96, 97, 98, 99, 100, 101, 102, 103, 104] (by decide +kernel) (by decide +kernel)
set_option maxRecDepth 20000 in
theorem gX9_controlNow_X9_isLong : GoodIn wsX9_controlNow (wsV RX9 211 RX9 yX9_isLong wsX9_isLong) := goodIn_app (goodIn_of _ (by decide +kernel)) ggX9_controlNow_X9_isLong
set_option maxRecDepth 20000 in
theorem ggX9_controlNow_X9_thick : GoodIn wsX9_controlNow wsX9_thick := goodIn_r _ [79, 13, 14, 15, 16, 10, 17, 5, 6, 22, 23, 24, 25, 26, 27, 28, 29, 30, 31, 32, 33, 34, 35, 36, 37, 38, 39, 40, 80, 81, 82, 83, 84, 85, 86, 87, 88, 89, 90, 91, 92, 93, 94, 95, 96, 97, 98, 99, 100, 101, 102, 103, 104] (by decide +kernel) (by decide +kernel)
set_option maxRecDepth 20000 in
theorem gX9_controlNow_X9_thick : GoodIn wsX9_controlNow (wsV RX9 214 RX9 yX9_thick wsX9_thick) := goodIn_app (goodIn_of _ (by decide +kernel)) ggX9_controlNow_X9_thick
theorem dX9_controlNow_0 : decode cX9_controlNow 0 = .ok (.aload_n 0, 1) := by decide +kernel
theorem dX9_controlNow_1 : decode cX9_controlNow 1 = .ok (.invokevirtual 176, 3) := by decide +kernel
theorem dX9_controlNow_4 : decode cX9_controlNow 4 = .ok (.pop, 1) := by decide +kernel
theorem dX9_controlNow_5 : decode cX9_controlNow 5 = .ok (.iconst 0, 1) := by decide +kernel
theorem dX9_controlNow_6 : decode cX9_controlNow 6 = .ok (.istore_n 2, 1) := by decide +kernel
theorem dX9_controlNow_7 : decode cX9_controlNow 7 = .ok (.iconst 0, 1) := by decide +kernel
theorem dX9_controlNow_8 : decode cX9_controlNow 8 = .ok (.istore_n 3, 1) := by decide +kernel
theorem dX9_controlNow_9 : decode cX9_controlNow 9 = .ok (.iconst 0, 1) := by decide +kernel
theorem dX9_controlNow_10 : decode cX9_controlNow 10 = .ok (.istore 4, 2) := by decide +kernel
theorem dX9_controlNow_12 : decode cX9_controlNow 12 = .ok (.iconst 0, 1) := by decide +kernel
theorem dX9_controlNow_13 : decode cX9_controlNow 13 = .ok (.istore 5, 2) := by decide +kernel
theorem dX9_controlNow_15 : decode cX9_controlNow 15 = .ok (.iconst 0, 1) := by decide +kernel
theorem dX9_controlNow_16 : decode cX9_controlNow 16 = .ok (.istore 6, 2) := by decide +kernel
theorem dX9_controlNow_18 : decode cX9_controlNow 18 = .ok (.iload 6, 2) := by decide +kernel
theorem dX9_controlNow_20 : decode cX9_controlNow 20 = .ok (.aload_n 0, 1) := by decide +kernel
theorem dX9_controlNow_21 : decode cX9_controlNow 21 = .ok (.getfield 194, 3) := by decide +kernel
theorem dX9_controlNow_24 : decode cX9_controlNow 24 = .ok (.if_icmp .ge 116, 3) := by decide +kernel
theorem dX9_controlNow_27 : decode cX9_controlNow 27 = .ok (.iload_n 2, 1) := by decide +kernel
theorem dX9_controlNow_28 : decode cX9_controlNow 28 = .ok (.aload_n 0, 1) := by decide +kernel
theorem dX9_controlNow_29 : decode cX9_controlNow 29 = .ok (.iload 6, 2) := by decide +kernel
theorem dX9_controlNow_31 : decode cX9_controlNow 31 = .ok (.invokevirtual 211, 3) := by decide +kernel
theorem dX9_controlNow_34 : decode cX9_controlNow 34 = .ok (.ifCond .eq 7, 3) := by decide +kernel
theorem dX9_controlNow_37 : decode cX9_controlNow 37 = .ok (.iconst 1, 1) := by decide +kernel
theorem dX9_controlNow_38 : decode cX9_controlNow 38 = .ok (.goto 4, 3) := by decide +kernel
theorem dX9_controlNow_41 : decode cX9_controlNow 41 = .ok (.iconst 0, 1) := by decide +kernel
theorem dX9_controlNow_42 : decode cX9_controlNow 42 = .ok (.iadd, 1) := by decide +kernel
theorem dX9_controlNow_43 : decode cX9_controlNow 43 = .ok (.istore_n 2, 1) := by decide +kernel
theorem dX9_controlNow_44 : decode cX9_controlNow 44 = .ok (.iload_n 3, 1) := by decide +kernel
theorem dX9_controlNow_45 : decode cX9_controlNow 45 = .ok (.aload_n 0, 1) := by decide +kernel
theorem dX9_controlNow_46 : decode cX9_controlNow 46 = .ok (.getfield 35, 3) := by decide +kernel
theorem dX9_controlNow_49 : decode cX9_controlNow 49 = .ok (.iload 6, 2) := by decide +kernel
theorem dX9_controlNow_51 : decode cX9_controlNow 51 = .ok (.baload, 1) := by decide +kernel
theorem dX9_controlNow_52 : decode cX9_controlNow 52 = .ok (.ifCond .eq 7, 3) := by decide +kernel
theorem dX9_controlNow_55 : decode cX9_controlNow 55 = .ok (.iconst 1, 1) := by decide +kernel
theorem dX9_controlNow_56 : decode cX9_controlNow 56 = .ok (.goto 4, 3) := by decide +kernel
theorem dX9_controlNow_59 : decode cX9_controlNow 59 = .ok (.iconst 0, 1) := by decide +kernel
theorem dX9_controlNow_60 : decode cX9_controlNow 60 = .ok (.iadd, 1) := by decide +kernel
theorem dX9_controlNow_61 : decode cX9_controlNow 61 = .ok (.istore_n 3, 1) := by decide +kernel
theorem dX9_controlNow_62 : decode cX9_controlNow 62 = .ok (.iload 4, 2) := by decide +kernel
theorem dX9_controlNow_64 : decode cX9_controlNow 64 = .ok (.aload_n 0, 1) := by decide +kernel
theorem dX9_controlNow_65 : decode cX9_controlNow 65 = .ok (.iload 6, 2) := by decide +kernel
theorem dX9_controlNow_67 : decode cX9_controlNow 67 = .ok (.invokevirtual 211, 3) := by decide +kernel
theorem dX9_controlNow_70 : decode cX9_controlNow 70 = .ok (.ifCond .eq 15, 3) := by decide +kernel
theorem dX9_controlNow_73 : decode cX9_controlNow 73 = .ok (.aload_n 0, 1) := by decide +kernel
theorem dX9_controlNow_74 : decode cX9_controlNow 74 = .ok (.getfield 32, 3) := by decide +kernel
theorem dX9_controlNow_77 : decode cX9_controlNow 77 = .ok (.iload 6, 2) := by decide +kernel
theorem dX9_controlNow_79 : decode cX9_controlNow 79 = .ok (.iaload, 1) := by decide +kernel
theorem dX9_controlNow_80 : decode cX9_controlNow 80 = .ok (.iconst 4, 1) := by decide +kernel
theorem dX9_controlNow_81 : decode cX9_controlNow 81 = .ok (.isub, 1) := by decide +kernel
theorem dX9_controlNow_82 : decode cX9_controlNow 82 = .ok (.goto 27, 3) := by decide +kernel
theorem dX9_controlNow_85 : decode cX9_controlNow 85 = .ok (.aload_n 0, 1) := by decide +kernel
theorem dX9_controlNow_86 : decode cX9_controlNow 86 = .ok (.getfield 35, 3) := by decide +kernel
theorem dX9_controlNow_89 : decode cX9_controlNow 89 = .ok (.iload 6, 2) := by decide +kernel
theorem dX9_controlNow_91 : decode cX9_controlNow 91 = .ok (.baload, 1) := by decide +kernel
theorem dX9_controlNow_92 : decode cX9_controlNow 92 = .ok (.ifCond .eq 16, 3) := by decide +kernel
theorem dX9_controlNow_95 : decode cX9_controlNow 95 = .ok (.aload_n 0, 1) := by decide +kernel
theorem dX9_controlNow_96 : decode cX9_controlNow 96 = .ok (.getfield 32, 3) := by decide +kernel
theorem dX9_controlNow_99 : decode cX9_controlNow 99 = .ok (.iload 6, 2) := by decide +kernel
theorem dX9_controlNow_101 : decode cX9_controlNow 101 = .ok (.iaload, 1) := by decide +kernel
theorem dX9_controlNow_102 : decode cX9_controlNow 102 = .ok (.bipush 8, 2) := by decide +kernel
theorem dX9_controlNow_104 : decode cX9_controlNow 104 = .ok (.isub, 1) := by decide +kernel
theorem dX9_controlNow_105 : decode cX9_controlNow 105 = .ok (.goto 4, 3) := by decide +kernel
theorem dX9_controlNow_108 : decode cX9_controlNow 108 = .ok (.iconst 0, 1) := by decide +kernel
theorem dX9_controlNow_109 : decode cX9_controlNow 109 = .ok (.iadd, 1) := by decide +kernel
theorem dX9_controlNow_110 : decode cX9_controlNow 110 = .ok (.istore 4, 2) := by decide +kernel
theorem dX9_controlNow_112 : decode cX9_controlNow 112 = .ok (.iload 5, 2) := by decide +kernel
theorem dX9_controlNow_114 : decode cX9_controlNow 114 = .ok (.ifCond .ne 13, 3) := by decide +kernel
theorem dX9_controlNow_117 : decode cX9_controlNow 117 = .ok (.aload_n 0, 1) := by decide +kernel
theorem dX9_controlNow_118 : decode cX9_controlNow 118 = .ok (.getfield 39, 3) := by decide +kernel
theorem dX9_controlNow_121 : decode cX9_controlNow 121 = .ok (.iload 6, 2) := by decide +kernel
theorem dX9_controlNow_123 : decode cX9_controlNow 123 = .ok (.baload, 1) := by decide +kernel
theorem dX9_controlNow_124 : decode cX9_controlNow 124 = .ok (.ifCond .eq 7, 3) := by decide +kernel
theorem dX9_controlNow_127 : decode cX9_controlNow 127 = .ok (.iconst 1, 1) := by decide +kernel
theorem dX9_controlNow_128 : decode cX9_controlNow 128 = .ok (.goto 4, 3) := by decide +kernel
theorem dX9_controlNow_131 : decode cX9_controlNow 131 = .ok (.iconst 0, 1) := by decide +kernel
theorem dX9_controlNow_132 : decode cX9_controlNow 132 = .ok (.istore 5, 2) := by decide +kernel
theorem dX9_controlNow_134 : decode cX9_controlNow 134 = .ok (.iinc 6 1, 3) := by decide +kernel
theorem dX9_controlNow_137 : decode cX9_controlNow 137 = .ok (.goto (-119), 3) := by decide +kernel
theorem dX9_controlNow_140 : decode cX9_controlNow 140 = .ok (.iload_n 1, 1) := by decide +kernel
theorem dX9_controlNow_141 : decode cX9_controlNow 141 = .ok (.tableswitch 65 0 4 #[35, 37, 39, 44, 62], 35) := by decide +kernel
theorem dX9_controlNow_176 : decode cX9_controlNow 176 = .ok (.iload_n 2, 1) := by decide +kernel
theorem dX9_controlNow_177 : decode cX9_controlNow 177 = .ok (.ireturn, 1) := by decide +kernel
theorem dX9_controlNow_178 : decode cX9_controlNow 178 = .ok (.iload_n 3, 1) := by decide +kernel
theorem dX9_controlNow_179 : decode cX9_controlNow 179 = .ok (.ireturn, 1) := by decide +kernel
theorem dX9_controlNow_180 : decode cX9_controlNow 180 = .ok (.aload_n 0, 1) := by decide +kernel
theorem dX9_controlNow_181 : decode cX9_controlNow 181 = .ok (.invokevirtual 214, 3) := by decide +kernel
theorem dX9_controlNow_184 : decode cX9_controlNow 184 = .ok (.ireturn, 1) := by decide +kernel
theorem dX9_controlNow_185 : decode cX9_controlNow 185 = .ok (.aload_n 0, 1) := by decide +kernel
theorem dX9_controlNow_186 : decode cX9_controlNow 186 = .ok (.invokevirtual 214, 3) := by decide +kernel
theorem dX9_controlNow_189 : decode cX9_controlNow 189 = .ok (.ifCond .ne 12, 3) := by decide +kernel
theorem dX9_controlNow_192 : decode cX9_controlNow 192 = .ok (.iload 5, 2) := by decide +kernel
theorem dX9_controlNow_194 : decode cX9_controlNow 194 = .ok (.ifCond .ne 7, 3) := by decide +kernel
theorem dX9_controlNow_197 : decode cX9_controlNow 197 = .ok (.iconst 1, 1) := by decide +kernel
theorem dX9_controlNow_198 : decode cX9_controlNow 198 = .ok (.goto 4, 3) := by decide +kernel
theorem dX9_controlNow_201 : decode cX9_controlNow 201 = .ok (.iconst 0, 1) := by decide +kernel
theorem dX9_controlNow_202 : decode cX9_controlNow 202 = .ok (.ireturn, 1) := by decide +kernel
theorem dX9_controlNow_203 : decode cX9_controlNow 203 = .ok (.iload 4, 2) := by decide +kernel
theorem dX9_controlNow_205 : decode cX9_controlNow 205 = .ok (.ireturn, 1) := by decide +kernel
theorem dX9_controlNow_206 : decode cX9_controlNow 206 = .ok (.aload_n 0, 1) := by decide +kernel
theorem dX9_controlNow_207 : decode cX9_controlNow 207 = .ok (.getfield 7, 3) := by decide +kernel
theorem dX9_controlNow_210 : decode cX9_controlNow 210 = .ok (.iconst 1, 1) := by decide +kernel
theorem dX9_controlNow_211 : decode cX9_controlNow 211 = .ok (.iadd, 1) := by decide +kernel
theorem dX9_controlNow_212 : decode cX9_controlNow 212 = .ok (.aload_n 0, 1) := by decide +kernel
theorem dX9_controlNow_213 : decode cX9_controlNow 213 = .ok (.getfield 13, 3) := by decide +kernel
theorem dX9_controlNow_216 : decode cX9_controlNow 216 = .ok (.iconst 1, 1) := by decide +kernel
theorem dX9_controlNow_217 : decode cX9_controlNow 217 = .ok (.iadd, 1) := by decide +kernel
theorem dX9_controlNow_218 : decode cX9_controlNow 218 = .ok (.imul, 1) := by decide +kernel
theorem dX9_controlNow_219 : decode cX9_controlNow 219 = .ok (.iload_n 2, 1) := by decide +kernel
theorem dX9_controlNow_220 : decode cX9_controlNow 220 = .ok (.iadd, 1) := by decide +kernel
theorem dX9_controlNow_221 : decode cX9_controlNow 221 = .ok (.iconst 2, 1) := by decide +kernel
theorem dX9_controlNow_222 : decode cX9_controlNow 222 = .ok (.irem, 1) := by decide +kernel
theorem dX9_controlNow_223 : decode cX9_controlNow 223 = .ok (.ireturn, 1) := by decide +kernel
set_option maxRecDepth 20000 in
theorem ggX9_control_X9_within : GoodIn wsX9_control wsX9_within := goodIn_r _ [5] (by decide +kernel) (by decide +kernel)
set_option maxRecDepth 20000 in
theorem gX9_control_X9_within : GoodIn wsX9_control (va_wsS RX9 73 yX9_within wsX9_within) := goodIn_app (goodIn_of _ (by decide +kernel)) ggX9_control_X9_within
set_option maxRecDepth 20000 in
theorem ggX9_control_X9_controlNow : GoodIn wsX9_control wsX9_controlNow := goodIn_r _ [9, 10, 11, 12, 13, 14, 15, 16, 17, 18, 4, 19, 20, 21, 22, 23, 24, 25, 26, 27, 28, 29, 30, 31, 32, 33, 34, 35, 36, 37, 38, 39, 40, 41, 42, 43, 44, 45, 46, 47, 48, 2, 3, 5, 49, 50, 51, 52, 53, 54, 55, 56, 57, 58, 59, 60, 61, 62, 63, 64, 65, 66, 67, 68, 69, 70, 71, 72, 73, 74, 75, 76, 77, 78, 79, 80, 81, 82, 83, 84, 85, 86, 87, 88, 89, 90, 91, 92, 93, 94, 95, 96, 97, 98, 99, 100, 101, 102, 103, 104, 105, 106, 107, 108, 109] (by decide +kernel) (by decide +kernel)
set_option maxRecDepth 20000 in
theorem gX9_control_X9_controlNow : GoodIn wsX9_control (wsV RX9 217 RX9 yX9_controlNow wsX9_controlNow) := goodIn_app (goodIn_of _ (by decide +kernel)) ggX9_control_X9_controlNow
theorem dX9_control_0 : decode cX9_control 0 = .ok (.aload_n 0, 1) := by decide +kernel
theorem dX9_control_1 : decode cX9_control 1 = .ok (.iload_n 1, 1) := by decide +kernel
theorem dX9_control_2 : decode cX9_control 2 = .ok (.iconst 0, 1) := by decide +kernel
theorem dX9_control_3 : decode cX9_control 3 = .ok (.iconst 5, 1) := by decide +kernel
theorem dX9_control_4 : decode cX9_control 4 = .ok (.invokestatic 73, 3) := by decide +kernel
theorem dX9_control_7 : decode cX9_control 7 = .ok (.ifCond .eq 7, 3) := by decide +kernel
theorem dX9_control_10 : decode cX9_control 10 = .ok (.iconst 0, 1) := by decide +kernel
theorem dX9_control_11 : decode cX9_control 11 = .ok (.goto 4, 3) := by decide +kernel
theorem dX9_control_14 : decode cX9_control 14 = .ok (.iconst 1, 1) := by decide +kernel
theorem dX9_control_15 : decode cX9_control 15 = .ok (.putfield 59, 3) := by decide +kernel
theorem dX9_control_18 : decode cX9_control 18 = .ok (.aload_n 0, 1) := by decide +kernel
theorem dX9_control_19 : decode cX9_control 19 = .ok (.getfield 59, 3) := by decide +kernel
theorem dX9_control_22 : decode cX9_control 22 = .ok (.ifCond .le 7, 3) := by decide +kernel
theorem dX9_control_25 : decode cX9_control 25 = .ok (.iconst 0, 1) := by decide +kernel
theorem dX9_control_26 : decode cX9_control 26 = .ok (.goto 8, 3) := by decide +kernel
theorem dX9_control_29 : decode cX9_control 29 = .ok (.aload_n 0, 1) := by decide +kernel
theorem dX9_control_30 : decode cX9_control 30 = .ok (.iload_n 1, 1) := by decide +kernel
theorem dX9_control_31 : decode cX9_control 31 = .ok (.invokevirtual 217, 3) := by decide +kernel
theorem dX9_control_34 : decode cX9_control 34 = .ok (.ireturn, 1) := by decide +kernel
set_option maxRecDepth 20000 in
theorem ggX9_valueOf_X9_isLong : GoodIn wsX9_valueOf wsX9_isLong := goodIn_r _ [7, 2, 1, 8, 9, 10, 11, 12, 13, 14, 15, 16, 17, 18, 19, 20, 21, 22, 23, 24, 25, 26, 27, 28, 29, 30, 31, 32] (by decide +kernel) (by decide +kernel)
set_option maxRecDepth 20000 in
theorem gX9_valueOf_X9_isLong : GoodIn wsX9_valueOf (wsV RX9 211 RX9 yX9_isLong wsX9_isLong) := goodIn_app (goodIn_of _ (by decide +kernel)) ggX9_valueOf_X9_isLong
theorem dX9_valueOf_0 : decode cX9_valueOf 0 = .ok (.aload_n 0, 1) := by decide +kernel
theorem dX9_valueOf_1 : decode cX9_valueOf 1 = .ok (.getfield 32, 3) := by decide +kernel
theorem dX9_valueOf_4 : decode cX9_valueOf 4 = .ok (.iload_n 1, 1) := by decide +kernel
theorem dX9_valueOf_5 : decode cX9_valueOf 5 = .ok (.iaload, 1) := by decide +kernel
theorem dX9_valueOf_6 : decode cX9_valueOf 6 = .ok (.istore_n 3, 1) := by decide +kernel
theorem dX9_valueOf_7 : decode cX9_valueOf 7 = .ok (.aload_n 0, 1) := by decide +kernel
theorem dX9_valueOf_8 : decode cX9_valueOf 8 = .ok (.getfield 35, 3) := by decide +kernel
theorem dX9_valueOf_11 : decode cX9_valueOf 11 = .ok (.iload_n 1, 1) := by decide +kernel
theorem dX9_valueOf_12 : decode cX9_valueOf 12 = .ok (.baload, 1) := by decide +kernel
theorem dX9_valueOf_13 : decode cX9_valueOf 13 = .ok (.ifCond .eq 12, 3) := by decide +kernel
theorem dX9_valueOf_16 : decode cX9_valueOf 16 = .ok (.iload_n 3, 1) := by decide +kernel
theorem dX9_valueOf_17 : decode cX9_valueOf 17 = .ok (.bipush 8, 2) := by decide +kernel
theorem dX9_valueOf_19 : decode cX9_valueOf 19 = .ok (.isub, 1) := by decide +kernel
theorem dX9_valueOf_20 : decode cX9_valueOf 20 = .ok (.iload_n 2, 1) := by decide +kernel
theorem dX9_valueOf_21 : decode cX9_valueOf 21 = .ok (.iadd, 1) := by decide +kernel
theorem dX9_valueOf_22 : decode cX9_valueOf 22 = .ok (.goto 22, 3) := by decide +kernel
theorem dX9_valueOf_25 : decode cX9_valueOf 25 = .ok (.aload_n 0, 1) := by decide +kernel
theorem dX9_valueOf_26 : decode cX9_valueOf 26 = .ok (.iload_n 1, 1) := by decide +kernel
theorem dX9_valueOf_27 : decode cX9_valueOf 27 = .ok (.invokevirtual 211, 3) := by decide +kernel
theorem dX9_valueOf_30 : decode cX9_valueOf 30 = .ok (.ifCond .eq 11, 3) := by decide +kernel
theorem dX9_valueOf_33 : decode cX9_valueOf 33 = .ok (.iload_n 3, 1) := by decide +kernel
theorem dX9_valueOf_34 : decode cX9_valueOf 34 = .ok (.iconst 4, 1) := by decide +kernel
theorem dX9_valueOf_35 : decode cX9_valueOf 35 = .ok (.isub, 1) := by decide +kernel
theorem dX9_valueOf_36 : decode cX9_valueOf 36 = .ok (.iload_n 2, 1) := by decide +kernel
theorem dX9_valueOf_37 : decode cX9_valueOf 37 = .ok (.iadd, 1) := by decide +kernel
theorem dX9_valueOf_38 : decode cX9_valueOf 38 = .ok (.goto 6, 3) := by decide +kernel
theorem dX9_valueOf_41 : decode cX9_valueOf 41 = .ok (.iload_n 3, 1) := by decide +kernel
theorem dX9_valueOf_42 : decode cX9_valueOf 42 = .ok (.iload_n 2, 1) := by decide +kernel
theorem dX9_valueOf_43 : decode cX9_valueOf 43 = .ok (.isub, 1) := by decide +kernel
theorem dX9_valueOf_44 : decode cX9_valueOf 44 = .ok (.istore 4, 2) := by decide +kernel
theorem dX9_valueOf_46 : decode cX9_valueOf 46 = .ok (.iload_n 3, 1) := by decide +kernel
theorem dX9_valueOf_47 : decode cX9_valueOf 47 = .ok (.iload_n 2, 1) := by decide +kernel
theorem dX9_valueOf_48 : decode cX9_valueOf 48 = .ok (.isub, 1) := by decide +kernel
theorem dX9_valueOf_49 : decode cX9_valueOf 49 = .ok (.iload 4, 2) := by decide +kernel
theorem dX9_valueOf_51 : decode cX9_valueOf 51 = .ok (.if_icmp .le 9, 3) := by decide +kernel
theorem dX9_valueOf_54 : decode cX9_valueOf 54 = .ok (.iload_n 3, 1) := by decide +kernel
theorem dX9_valueOf_55 : decode cX9_valueOf 55 = .ok (.iload_n 2, 1) := by decide +kernel
theorem dX9_valueOf_56 : decode cX9_valueOf 56 = .ok (.isub, 1) := by decide +kernel
theorem dX9_valueOf_57 : decode cX9_valueOf 57 = .ok (.goto 5, 3) := by decide +kernel
theorem dX9_valueOf_60 : decode cX9_valueOf 60 = .ok (.iload 4, 2) := by decide +kernel
theorem dX9_valueOf_62 : decode cX9_valueOf 62 = .ok (.ireturn, 1) := by decide +kernel
set_option maxRecDepth 20000 in
theorem ggX9_predictionNow_X9_has : GoodIn wsX9_predictionNow wsX9_has := goodIn_r _ [6] (by decide +kernel) (by decide +kernel)
set_option maxRecDepth 20000 in
theorem gX9_predictionNow_X9_has : GoodIn wsX9_predictionNow (va_wsS RX9 62 yX9_has wsX9_has) := goodIn_app (goodIn_of _ (by decide +kernel)) ggX9_predictionNow_X9_has
set_option maxRecDepth 20000 in
theorem ggX9_predictionNow_X9_valueOf : GoodIn wsX9_predictionNow wsX9_valueOf := goodIn_r _ [10, 11, 12, 13, 14, 15, 5, 16, 17, 18, 19, 20, 21, 22, 23, 24, 25, 26, 27, 28, 29, 30, 31, 32, 33, 34, 35, 36, 37, 38, 39, 40, 41] (by decide +kernel) (by decide +kernel)
set_option maxRecDepth 20000 in
theorem gX9_predictionNow_X9_valueOf : GoodIn wsX9_predictionNow (wsV RX9 220 RX9 yX9_valueOf wsX9_valueOf) := goodIn_app (goodIn_of _ (by decide +kernel)) ggX9_predictionNow_X9_valueOf
theorem dX9_predictionNow_0 : decode cX9_predictionNow 0 = .ok (.aload_n 0, 1) := by decide +kernel
theorem dX9_predictionNow_1 : decode cX9_predictionNow 1 = .ok (.getfield 42, 3) := by decide +kernel
theorem dX9_predictionNow_4 : decode cX9_predictionNow 4 = .ok (.iconst 0, 1) := by decide +kernel
theorem dX9_predictionNow_5 : decode cX9_predictionNow 5 = .ok (.iconst 0, 1) := by decide +kernel
theorem dX9_predictionNow_6 : decode cX9_predictionNow 6 = .ok (.iastore, 1) := by decide +kernel
theorem dX9_predictionNow_7 : decode cX9_predictionNow 7 = .ok (.iconst 1, 1) := by decide +kernel
theorem dX9_predictionNow_8 : decode cX9_predictionNow 8 = .ok (.istore_n 1, 1) := by decide +kernel
theorem dX9_predictionNow_9 : decode cX9_predictionNow 9 = .ok (.iload_n 1, 1) := by decide +kernel
theorem dX9_predictionNow_10 : decode cX9_predictionNow 10 = .ok (.iconst 1, 1) := by decide +kernel
theorem dX9_predictionNow_11 : decode cX9_predictionNow 11 = .ok (.aload_n 0, 1) := by decide +kernel
theorem dX9_predictionNow_12 : decode cX9_predictionNow 12 = .ok (.getfield 194, 3) := by decide +kernel
theorem dX9_predictionNow_15 : decode cX9_predictionNow 15 = .ok (.ishl, 1) := by decide +kernel
theorem dX9_predictionNow_16 : decode cX9_predictionNow 16 = .ok (.if_icmp .ge 89, 3) := by decide +kernel
theorem dX9_predictionNow_19 : decode cX9_predictionNow 19 = .ok (.iconst 1, 1) := by decide +kernel
theorem dX9_predictionNow_20 : decode cX9_predictionNow 20 = .ok (.istore_n 2, 1) := by decide +kernel
theorem dX9_predictionNow_21 : decode cX9_predictionNow 21 = .ok (.iconst 0, 1) := by decide +kernel
theorem dX9_predictionNow_22 : decode cX9_predictionNow 22 = .ok (.istore_n 3, 1) := by decide +kernel
theorem dX9_predictionNow_23 : decode cX9_predictionNow 23 = .ok (.iload_n 3, 1) := by decide +kernel
theorem dX9_predictionNow_24 : decode cX9_predictionNow 24 = .ok (.aload_n 0, 1) := by decide +kernel
theorem dX9_predictionNow_25 : decode cX9_predictionNow 25 = .ok (.getfield 194, 3) := by decide +kernel
theorem dX9_predictionNow_28 : decode cX9_predictionNow 28 = .ok (.if_icmp .ge 71, 3) := by decide +kernel
theorem dX9_predictionNow_31 : decode cX9_predictionNow 31 = .ok (.iload_n 1, 1) := by decide +kernel
theorem dX9_predictionNow_32 : decode cX9_predictionNow 32 = .ok (.i2l, 1) := by decide +kernel
theorem dX9_predictionNow_33 : decode cX9_predictionNow 33 = .ok (.iload_n 3, 1) := by decide +kernel
theorem dX9_predictionNow_34 : decode cX9_predictionNow 34 = .ok (.invokestatic 62, 3) := by decide +kernel
theorem dX9_predictionNow_37 : decode cX9_predictionNow 37 = .ok (.ifCond .eq 56, 3) := by decide +kernel
theorem dX9_predictionNow_40 : decode cX9_predictionNow 40 = .ok (.aload_n 0, 1) := by decide +kernel
theorem dX9_predictionNow_41 : decode cX9_predictionNow 41 = .ok (.iload_n 3, 1) := by decide +kernel
theorem dX9_predictionNow_42 : decode cX9_predictionNow 42 = .ok (.aload_n 0, 1) := by decide +kernel
theorem dX9_predictionNow_43 : decode cX9_predictionNow 43 = .ok (.getfield 42, 3) := by decide +kernel
theorem dX9_predictionNow_46 : decode cX9_predictionNow 46 = .ok (.iload_n 1, 1) := by decide +kernel
theorem dX9_predictionNow_47 : decode cX9_predictionNow 47 = .ok (.iconst 1, 1) := by decide +kernel
theorem dX9_predictionNow_48 : decode cX9_predictionNow 48 = .ok (.iload_n 3, 1) := by decide +kernel
theorem dX9_predictionNow_49 : decode cX9_predictionNow 49 = .ok (.ishl, 1) := by decide +kernel
theorem dX9_predictionNow_50 : decode cX9_predictionNow 50 = .ok (.iconst (-1), 1) := by decide +kernel
theorem dX9_predictionNow_51 : decode cX9_predictionNow 51 = .ok (.ixor, 1) := by decide +kernel
theorem dX9_predictionNow_52 : decode cX9_predictionNow 52 = .ok (.iand, 1) := by decide +kernel
theorem dX9_predictionNow_53 : decode cX9_predictionNow 53 = .ok (.iaload, 1) := by decide +kernel
theorem dX9_predictionNow_54 : decode cX9_predictionNow 54 = .ok (.invokevirtual 220, 3) := by decide +kernel
theorem dX9_predictionNow_57 : decode cX9_predictionNow 57 = .ok (.istore 4, 2) := by decide +kernel
theorem dX9_predictionNow_59 : decode cX9_predictionNow 59 = .ok (.aload_n 0, 1) := by decide +kernel
theorem dX9_predictionNow_60 : decode cX9_predictionNow 60 = .ok (.getfield 42, 3) := by decide +kernel
theorem dX9_predictionNow_63 : decode cX9_predictionNow 63 = .ok (.iload_n 1, 1) := by decide +kernel
theorem dX9_predictionNow_64 : decode cX9_predictionNow 64 = .ok (.iload_n 2, 1) := by decide +kernel
theorem dX9_predictionNow_65 : decode cX9_predictionNow 65 = .ok (.ifCond .ne 14, 3) := by decide +kernel
theorem dX9_predictionNow_68 : decode cX9_predictionNow 68 = .ok (.iload 4, 2) := by decide +kernel
theorem dX9_predictionNow_70 : decode cX9_predictionNow 70 = .ok (.aload_n 0, 1) := by decide +kernel
theorem dX9_predictionNow_71 : decode cX9_predictionNow 71 = .ok (.getfield 42, 3) := by decide +kernel
theorem dX9_predictionNow_74 : decode cX9_predictionNow 74 = .ok (.iload_n 1, 1) := by decide +kernel
theorem dX9_predictionNow_75 : decode cX9_predictionNow 75 = .ok (.iaload, 1) := by decide +kernel
theorem dX9_predictionNow_76 : decode cX9_predictionNow 76 = .ok (.if_icmp .ge 8, 3) := by decide +kernel
theorem dX9_predictionNow_79 : decode cX9_predictionNow 79 = .ok (.iload 4, 2) := by decide +kernel
theorem dX9_predictionNow_81 : decode cX9_predictionNow 81 = .ok (.goto 9, 3) := by decide +kernel
theorem dX9_predictionNow_84 : decode cX9_predictionNow 84 = .ok (.aload_n 0, 1) := by decide +kernel
theorem dX9_predictionNow_85 : decode cX9_predictionNow 85 = .ok (.getfield 42, 3) := by decide +kernel
theorem dX9_predictionNow_88 : decode cX9_predictionNow 88 = .ok (.iload_n 1, 1) := by decide +kernel
theorem dX9_predictionNow_89 : decode cX9_predictionNow 89 = .ok (.iaload, 1) := by decide +kernel
theorem dX9_predictionNow_90 : decode cX9_predictionNow 90 = .ok (.iastore, 1) := by decide +kernel
theorem dX9_predictionNow_91 : decode cX9_predictionNow 91 = .ok (.iconst 0, 1) := by decide +kernel
theorem dX9_predictionNow_92 : decode cX9_predictionNow 92 = .ok (.istore_n 2, 1) := by decide +kernel
theorem dX9_predictionNow_93 : decode cX9_predictionNow 93 = .ok (.iinc 3 1, 3) := by decide +kernel
theorem dX9_predictionNow_96 : decode cX9_predictionNow 96 = .ok (.goto (-73), 3) := by decide +kernel
theorem dX9_predictionNow_99 : decode cX9_predictionNow 99 = .ok (.iinc 1 1, 3) := by decide +kernel
theorem dX9_predictionNow_102 : decode cX9_predictionNow 102 = .ok (.goto (-93), 3) := by decide +kernel
theorem dX9_predictionNow_105 : decode cX9_predictionNow 105 = .ok (.aload_n 0, 1) := by decide +kernel
theorem dX9_predictionNow_106 : decode cX9_predictionNow 106 = .ok (.getfield 42, 3) := by decide +kernel
theorem dX9_predictionNow_109 : decode cX9_predictionNow 109 = .ok (.iconst 1, 1) := by decide +kernel
theorem dX9_predictionNow_110 : decode cX9_predictionNow 110 = .ok (.aload_n 0, 1) := by decide +kernel
theorem dX9_predictionNow_111 : decode cX9_predictionNow 111 = .ok (.getfield 194, 3) := by decide +kernel
theorem dX9_predictionNow_114 : decode cX9_predictionNow 114 = .ok (.ishl, 1) := by decide +kernel
theorem dX9_predictionNow_115 : decode cX9_predictionNow 115 = .ok (.iconst 1, 1) := by decide +kernel
theorem dX9_predictionNow_116 : decode cX9_predictionNow 116 = .ok (.isub, 1) := by decide +kernel
theorem dX9_predictionNow_117 : decode cX9_predictionNow 117 = .ok (.iaload, 1) := by decide +kernel
theorem dX9_predictionNow_118 : decode cX9_predictionNow 118 = .ok (.ireturn, 1) := by decide +kernel
set_option maxRecDepth 20000 in
theorem ggX9_prediction_X9_layStrings : GoodIn wsX9_prediction wsX9_layStrings := goodIn_r _ [6, 7, 8, 9, 10, 11, 12, 13, 14, 15, 5, 16, 17, 18, 19, 20, 21, 22, 23, 24, 25, 26, 27, 28, 29, 30, 31, 32, 33, 34, 35, 36, 37, 38, 39, 40, 41, 42, 43, 44, 45, 46, 47, 48, 49, 50, 51, 52, 53, 54, 55, 56, 57, 58, 59, 60, 61, 62, 63, 64, 65, 66, 67, 68, 69, 70, 71, 72, 86, 87, 88, 89, 90, 91, 92, 93, 94, 95, 96, 97, 98, 99, 100, 101, 102, 103, 104, 105, 106, 107, 108, 109, 110] (by decide +kernel) (by decide +kernel)
set_option maxRecDepth 20000 in
theorem gX9_prediction_X9_layStrings : GoodIn wsX9_prediction (wsV RX9 176 RX9 yX9_layStrings wsX9_layStrings) := goodIn_app (goodIn_of _ (by decide +kernel)) ggX9_prediction_X9_layStrings
set_option maxRecDepth 20000 in
theorem ggX9_prediction_X9_predictionNow : GoodIn wsX9_prediction wsX9_predictionNow := goodIn_r _ [76, 77, 7, 39, 40, 5, 41, 78, 79, 80, 81, 9, 10, 82, 83, 84, 85, 86, 87, 88, 89, 90, 91, 92, 93, 94, 95, 96, 97, 98, 99, 100, 101, 102, 103, 104, 105, 106, 107, 108, 109, 110] (by decide +kernel) (by decide +kernel)
set_option maxRecDepth 20000 in
theorem gX9_prediction_X9_predictionNow : GoodIn wsX9_prediction (wsV RX9 223 RX9 yX9_predictionNow wsX9_predictionNow) := goodIn_app (goodIn_of _ (by decide +kernel)) ggX9_prediction_X9_predictionNow
theorem dX9_prediction_0 : decode cX9_prediction 0 = .ok (.aload_n 0, 1) := by decide +kernel
theorem dX9_prediction_1 : decode cX9_prediction 1 = .ok (.aload_n 0, 1) := by decide +kernel
theorem dX9_prediction_2 : decode cX9_prediction 2 = .ok (.invokevirtual 176, 3) := by decide +kernel
theorem dX9_prediction_5 : decode cX9_prediction 5 = .ok (.bipush 10, 2) := by decide +kernel
theorem dX9_prediction_7 : decode cX9_prediction 7 = .ok (.if_icmp .gt 7, 3) := by decide +kernel
theorem dX9_prediction_10 : decode cX9_prediction 10 = .ok (.iconst 0, 1) := by decide +kernel
theorem dX9_prediction_11 : decode cX9_prediction 11 = .ok (.goto 4, 3) := by decide +kernel
theorem dX9_prediction_14 : decode cX9_prediction 14 = .ok (.iconst 1, 1) := by decide +kernel
theorem dX9_prediction_15 : decode cX9_prediction 15 = .ok (.putfield 59, 3) := by decide +kernel
theorem dX9_prediction_18 : decode cX9_prediction 18 = .ok (.aload_n 0, 1) := by decide +kernel
theorem dX9_prediction_19 : decode cX9_prediction 19 = .ok (.getfield 59, 3) := by decide +kernel
theorem dX9_prediction_22 : decode cX9_prediction 22 = .ok (.ifCond .le 7, 3) := by decide +kernel
theorem dX9_prediction_25 : decode cX9_prediction 25 = .ok (.iconst 0, 1) := by decide +kernel
theorem dX9_prediction_26 : decode cX9_prediction 26 = .ok (.goto 7, 3) := by decide +kernel
theorem dX9_prediction_29 : decode cX9_prediction 29 = .ok (.aload_n 0, 1) := by decide +kernel
theorem dX9_prediction_30 : decode cX9_prediction 30 = .ok (.invokevirtual 223, 3) := by decide +kernel
theorem dX9_prediction_33 : decode cX9_prediction 33 = .ok (.ireturn, 1) := by decide +kernel
set_option maxRecDepth 20000 in
theorem ggX9_open_X9_all : GoodIn wsX9_open wsX9_all := goodIn_r _ [5, 6, 7, 8, 9, 10, 4, 11, 18, 19, 20, 21, 22, 23, 24, 25, 26, 27, 28, 29, 30, 31, 32, 33, 34, 35, 36, 37, 38, 39, 40, 41, 42] (by decide +kernel) (by decide +kernel)
set_option maxRecDepth 20000 in
theorem gX9_open_X9_all : GoodIn wsX9_open (wsV RX9 70 RX9 yX9_all wsX9_all) := goodIn_app (goodIn_of _ (by decide +kernel)) ggX9_open_X9_all
set_option maxRecDepth 20000 in
theorem ggX9_open_X9_size : GoodIn wsX9_open wsX9_size := goodIn_r _ [14, 15, 16, 4, 17] (by decide +kernel) (by decide +kernel)
set_option maxRecDepth 20000 in
theorem gX9_open_X9_size : GoodIn wsX9_open (va_wsS RX9 140 yX9_size wsX9_size) := goodIn_app (goodIn_of _ (by decide +kernel)) ggX9_open_X9_size
theorem dX9_open_0 : decode cX9_open 0 = .ok (.aload_n 0, 1) := by decide +kernel
theorem dX9_open_1 : decode cX9_open 1 = .ok (.invokevirtual 70, 3) := by decide +kernel
theorem dX9_open_4 : decode cX9_open 4 = .ok (.lload_n 1, 1) := by decide +kernel
theorem dX9_open_5 : decode cX9_open 5 = .ok (.invokestatic 140, 3) := by decide +kernel
theorem dX9_open_8 : decode cX9_open 8 = .ok (.isub, 1) := by decide +kernel
theorem dX9_open_9 : decode cX9_open 9 = .ok (.ireturn, 1) := by decide +kernel
set_option maxRecDepth 20000 in
theorem ggX9_layOpen_X9_all : GoodIn wsX9_layOpen wsX9_all := goodIn_r _ [7, 8, 9, 10, 11, 12, 6, 13, 17, 18, 19, 20, 21, 22, 23, 24, 25, 26, 27, 28, 29, 30, 31, 32, 33, 34, 35, 36, 37, 38, 39, 40, 41] (by decide +kernel) (by decide +kernel)
set_option maxRecDepth 20000 in
theorem gX9_layOpen_X9_all : GoodIn wsX9_layOpen (wsV RX9 70 RX9 yX9_all wsX9_all) := goodIn_app (goodIn_of _ (by decide +kernel)) ggX9_layOpen_X9_all
set_option maxRecDepth 20000 in
theorem ggX9_layOpen_X9_has : GoodIn wsX9_layOpen wsX9_has := goodIn_r _ [16] (by decide +kernel) (by decide +kernel)
set_option maxRecDepth 20000 in
theorem gX9_layOpen_X9_has : GoodIn wsX9_layOpen (va_wsS RX9 62 yX9_has wsX9_has) := goodIn_app (goodIn_of _ (by decide +kernel)) ggX9_layOpen_X9_has
theorem dX9_layOpen_0 : decode cX9_layOpen 0 = .ok (.aload_n 0, 1) := by decide +kernel
theorem dX9_layOpen_1 : decode cX9_layOpen 1 = .ok (.iconst 0, 1) := by decide +kernel
theorem dX9_layOpen_2 : decode cX9_layOpen 2 = .ok (.putfield 226, 3) := by decide +kernel
theorem dX9_layOpen_5 : decode cX9_layOpen 5 = .ok (.iconst 0, 1) := by decide +kernel
theorem dX9_layOpen_6 : decode cX9_layOpen 6 = .ok (.istore_n 3, 1) := by decide +kernel
theorem dX9_layOpen_7 : decode cX9_layOpen 7 = .ok (.iload_n 3, 1) := by decide +kernel
theorem dX9_layOpen_8 : decode cX9_layOpen 8 = .ok (.aload_n 0, 1) := by decide +kernel
theorem dX9_layOpen_9 : decode cX9_layOpen 9 = .ok (.invokevirtual 70, 3) := by decide +kernel
theorem dX9_layOpen_12 : decode cX9_layOpen 12 = .ok (.if_icmp .ge 37, 3) := by decide +kernel
theorem dX9_layOpen_15 : decode cX9_layOpen 15 = .ok (.lload_n 1, 1) := by decide +kernel
theorem dX9_layOpen_16 : decode cX9_layOpen 16 = .ok (.iload_n 3, 1) := by decide +kernel
theorem dX9_layOpen_17 : decode cX9_layOpen 17 = .ok (.invokestatic 62, 3) := by decide +kernel
theorem dX9_layOpen_20 : decode cX9_layOpen 20 = .ok (.ifCond .ne 23, 3) := by decide +kernel
theorem dX9_layOpen_23 : decode cX9_layOpen 23 = .ok (.aload_n 0, 1) := by decide +kernel
theorem dX9_layOpen_24 : decode cX9_layOpen 24 = .ok (.getfield 45, 3) := by decide +kernel
theorem dX9_layOpen_27 : decode cX9_layOpen 27 = .ok (.aload_n 0, 1) := by decide +kernel
theorem dX9_layOpen_28 : decode cX9_layOpen 28 = .ok (.getfield 226, 3) := by decide +kernel
theorem dX9_layOpen_31 : decode cX9_layOpen 31 = .ok (.iload_n 3, 1) := by decide +kernel
theorem dX9_layOpen_32 : decode cX9_layOpen 32 = .ok (.iastore, 1) := by decide +kernel
theorem dX9_layOpen_33 : decode cX9_layOpen 33 = .ok (.aload_n 0, 1) := by decide +kernel
theorem dX9_layOpen_34 : decode cX9_layOpen 34 = .ok (.dup, 1) := by decide +kernel
theorem dX9_layOpen_35 : decode cX9_layOpen 35 = .ok (.getfield 226, 3) := by decide +kernel
theorem dX9_layOpen_38 : decode cX9_layOpen 38 = .ok (.iconst 1, 1) := by decide +kernel
theorem dX9_layOpen_39 : decode cX9_layOpen 39 = .ok (.iadd, 1) := by decide +kernel
theorem dX9_layOpen_40 : decode cX9_layOpen 40 = .ok (.putfield 226, 3) := by decide +kernel
theorem dX9_layOpen_43 : decode cX9_layOpen 43 = .ok (.iinc 3 1, 3) := by decide +kernel
theorem dX9_layOpen_46 : decode cX9_layOpen 46 = .ok (.goto (-39), 3) := by decide +kernel
theorem dX9_layOpen_49 : decode cX9_layOpen 49 = .ok (.return_, 1) := by decide +kernel
set_option maxRecDepth 20000 in
theorem ggX9_without_X9_has : GoodIn wsX9_without wsX9_has := goodIn_r _ [6] (by decide +kernel) (by decide +kernel)
set_option maxRecDepth 20000 in
theorem gX9_without_X9_has : GoodIn wsX9_without (va_wsS RX9 62 yX9_has wsX9_has) := goodIn_app (goodIn_of _ (by decide +kernel)) ggX9_without_X9_has
theorem dX9_without_0 : decode cX9_without 0 = .ok (.lload_n 1, 1) := by decide +kernel
theorem dX9_without_1 : decode cX9_without 1 = .ok (.lstore 4, 2) := by decide +kernel
theorem dX9_without_3 : decode cX9_without 3 = .ok (.iconst 0, 1) := by decide +kernel
theorem dX9_without_4 : decode cX9_without 4 = .ok (.istore 6, 2) := by decide +kernel
theorem dX9_without_6 : decode cX9_without 6 = .ok (.iload 6, 2) := by decide +kernel
theorem dX9_without_8 : decode cX9_without 8 = .ok (.aload_n 0, 1) := by decide +kernel
theorem dX9_without_9 : decode cX9_without 9 = .ok (.getfield 226, 3) := by decide +kernel
theorem dX9_without_12 : decode cX9_without 12 = .ok (.if_icmp .ge 37, 3) := by decide +kernel
theorem dX9_without_15 : decode cX9_without 15 = .ok (.lload 4, 2) := by decide +kernel
theorem dX9_without_17 : decode cX9_without 17 = .ok (.iload_n 3, 1) := by decide +kernel
theorem dX9_without_18 : decode cX9_without 18 = .ok (.i2l, 1) := by decide +kernel
theorem dX9_without_19 : decode cX9_without 19 = .ok (.iload 6, 2) := by decide +kernel
theorem dX9_without_21 : decode cX9_without 21 = .ok (.invokestatic 62, 3) := by decide +kernel
theorem dX9_without_24 : decode cX9_without 24 = .ok (.ifCond .eq 7, 3) := by decide +kernel
theorem dX9_without_27 : decode cX9_without 27 = .ok (.lconst 0, 1) := by decide +kernel
theorem dX9_without_28 : decode cX9_without 28 = .ok (.goto 12, 3) := by decide +kernel
theorem dX9_without_31 : decode cX9_without 31 = .ok (.lconst 1, 1) := by decide +kernel
theorem dX9_without_32 : decode cX9_without 32 = .ok (.aload_n 0, 1) := by decide +kernel
theorem dX9_without_33 : decode cX9_without 33 = .ok (.getfield 45, 3) := by decide +kernel
theorem dX9_without_36 : decode cX9_without 36 = .ok (.iload 6, 2) := by decide +kernel
theorem dX9_without_38 : decode cX9_without 38 = .ok (.iaload, 1) := by decide +kernel
theorem dX9_without_39 : decode cX9_without 39 = .ok (.lshl, 1) := by decide +kernel
theorem dX9_without_40 : decode cX9_without 40 = .ok (.lor, 1) := by decide +kernel
theorem dX9_without_41 : decode cX9_without 41 = .ok (.lstore 4, 2) := by decide +kernel
theorem dX9_without_43 : decode cX9_without 43 = .ok (.iinc 6 1, 3) := by decide +kernel
theorem dX9_without_46 : decode cX9_without 46 = .ok (.goto (-40), 3) := by decide +kernel
theorem dX9_without_49 : decode cX9_without 49 = .ok (.lload 4, 2) := by decide +kernel
theorem dX9_without_51 : decode cX9_without 51 = .ok (.lreturn, 1) := by decide +kernel
set_option maxRecDepth 20000 in
theorem ggX9_resultOf_X9_gains : GoodIn wsX9_resultOf wsX9_gains := goodIn_r _ [7, 8, 9, 10, 6, 11, 12, 13, 14, 15, 16, 17, 18, 19, 20, 21, 22, 23, 24, 25, 26, 27, 28, 29, 30, 31, 32, 33, 34, 35, 36, 37, 38, 39, 40, 41, 42, 43, 44, 45, 46, 47, 48, 49, 50, 51, 52, 53, 54, 55, 56, 57, 58, 59, 60, 61, 62, 63, 64, 65, 66, 67, 68, 69, 70, 71, 72] (by decide +kernel) (by decide +kernel)
set_option maxRecDepth 20000 in
theorem gX9_resultOf_X9_gains : GoodIn wsX9_resultOf (wsV RX9 106 RX9 yX9_gains wsX9_gains) := goodIn_app (goodIn_of _ (by decide +kernel)) ggX9_resultOf_X9_gains
theorem dX9_resultOf_0 : decode cX9_resultOf 0 = .ok (.aload_n 0, 1) := by decide +kernel
theorem dX9_resultOf_1 : decode cX9_resultOf 1 = .ok (.aload_n 0, 1) := by decide +kernel
theorem dX9_resultOf_2 : decode cX9_resultOf 2 = .ok (.getfield 45, 3) := by decide +kernel
theorem dX9_resultOf_5 : decode cX9_resultOf 5 = .ok (.iload 4, 2) := by decide +kernel
theorem dX9_resultOf_7 : decode cX9_resultOf 7 = .ok (.iaload, 1) := by decide +kernel
theorem dX9_resultOf_8 : decode cX9_resultOf 8 = .ok (.lload_n 1, 1) := by decide +kernel
theorem dX9_resultOf_9 : decode cX9_resultOf 9 = .ok (.invokevirtual 106, 3) := by decide +kernel
theorem dX9_resultOf_12 : decode cX9_resultOf 12 = .ok (.istore 5, 2) := by decide +kernel
theorem dX9_resultOf_14 : decode cX9_resultOf 14 = .ok (.aload_n 0, 1) := by decide +kernel
theorem dX9_resultOf_15 : decode cX9_resultOf 15 = .ok (.getfield 48, 3) := by decide +kernel
theorem dX9_resultOf_18 : decode cX9_resultOf 18 = .ok (.iload_n 3, 1) := by decide +kernel
theorem dX9_resultOf_19 : decode cX9_resultOf 19 = .ok (.iconst 1, 1) := by decide +kernel
theorem dX9_resultOf_20 : decode cX9_resultOf 20 = .ok (.iload 4, 2) := by decide +kernel
theorem dX9_resultOf_22 : decode cX9_resultOf 22 = .ok (.ishl, 1) := by decide +kernel
theorem dX9_resultOf_23 : decode cX9_resultOf 23 = .ok (.iconst (-1), 1) := by decide +kernel
theorem dX9_resultOf_24 : decode cX9_resultOf 24 = .ok (.ixor, 1) := by decide +kernel
theorem dX9_resultOf_25 : decode cX9_resultOf 25 = .ok (.iand, 1) := by decide +kernel
theorem dX9_resultOf_26 : decode cX9_resultOf 26 = .ok (.iaload, 1) := by decide +kernel
theorem dX9_resultOf_27 : decode cX9_resultOf 27 = .ok (.istore 6, 2) := by decide +kernel
theorem dX9_resultOf_29 : decode cX9_resultOf 29 = .ok (.iload 5, 2) := by decide +kernel
theorem dX9_resultOf_31 : decode cX9_resultOf 31 = .ok (.ifCond .le 11, 3) := by decide +kernel
theorem dX9_resultOf_34 : decode cX9_resultOf 34 = .ok (.iload 5, 2) := by decide +kernel
theorem dX9_resultOf_36 : decode cX9_resultOf 36 = .ok (.iload 6, 2) := by decide +kernel
theorem dX9_resultOf_38 : decode cX9_resultOf 38 = .ok (.iadd, 1) := by decide +kernel
theorem dX9_resultOf_39 : decode cX9_resultOf 39 = .ok (.goto 6, 3) := by decide +kernel
theorem dX9_resultOf_42 : decode cX9_resultOf 42 = .ok (.iload 6, 2) := by decide +kernel
theorem dX9_resultOf_44 : decode cX9_resultOf 44 = .ok (.ineg, 1) := by decide +kernel
theorem dX9_resultOf_45 : decode cX9_resultOf 45 = .ok (.ireturn, 1) := by decide +kernel
set_option maxRecDepth 20000 in
theorem ggX9_layResults_X9_layOpen : GoodIn wsX9_layResults wsX9_layOpen := goodIn_r _ [7, 2, 8, 9, 10, 11, 6, 12, 13, 14, 15, 16, 17, 18, 19, 20, 21, 65, 66, 67, 68, 69, 70, 71, 72, 73, 74, 75, 76, 77, 78, 79, 80, 81, 82, 83, 84, 85, 86, 87, 88, 89] (by decide +kernel) (by decide +kernel)
set_option maxRecDepth 20000 in
theorem gX9_layResults_X9_layOpen : GoodIn wsX9_layResults (wsV RX9 229 RX9 yX9_layOpen wsX9_layOpen) := goodIn_app (goodIn_of _ (by decide +kernel)) ggX9_layResults_X9_layOpen
set_option maxRecDepth 20000 in
theorem ggX9_layResults_X9_without : GoodIn wsX9_layResults wsX9_without := goodIn_r _ [25, 2, 8, 19, 20, 6, 21, 65, 66, 67, 68, 69, 70, 71, 72, 73, 74, 75, 76, 77, 78, 79, 80, 81, 82, 83, 84, 85, 86, 87, 88, 89] (by decide +kernel) (by decide +kernel)
set_option maxRecDepth 20000 in
theorem gX9_layResults_X9_without : GoodIn wsX9_layResults (wsV RX9 233 RX9 yX9_without wsX9_without) := goodIn_app (goodIn_of _ (by decide +kernel)) ggX9_layResults_X9_without
set_option maxRecDepth 20000 in
theorem ggX9_layResults_X9_has : GoodIn wsX9_layResults wsX9_has := goodIn_r _ [21] (by decide +kernel) (by decide +kernel)
set_option maxRecDepth 20000 in
theorem gX9_layResults_X9_has : GoodIn wsX9_layResults (va_wsS RX9 62 yX9_has wsX9_has) := goodIn_app (goodIn_of _ (by decide +kernel)) ggX9_layResults_X9_has
set_option maxRecDepth 20000 in
theorem ggX9_layResults_X9_resultOf : GoodIn wsX9_layResults wsX9_resultOf := goodIn_r _ [29, 8, 1, 30, 31, 32, 6, 33, 34, 35, 36, 37, 14, 13, 38, 39, 40, 41, 42, 43, 44, 45, 15, 16, 17, 18, 46, 47, 48, 49, 50, 51, 52, 53, 54, 55, 56, 57, 58, 59, 60, 61, 62, 63, 64, 19, 20, 21, 65, 66, 67, 68, 69, 70, 71, 72, 73, 74, 75, 76, 77, 78, 79, 80, 81, 82, 83, 84, 85, 86, 87, 88, 89] (by decide +kernel) (by decide +kernel)
set_option maxRecDepth 20000 in
theorem gX9_layResults_X9_resultOf : GoodIn wsX9_layResults (wsV RX9 237 RX9 yX9_resultOf wsX9_resultOf) := goodIn_app (goodIn_of _ (by decide +kernel)) ggX9_layResults_X9_resultOf
theorem dX9_layResults_0 : decode cX9_layResults 0 = .ok (.aload_n 0, 1) := by decide +kernel
theorem dX9_layResults_1 : decode cX9_layResults 1 = .ok (.lload_n 1, 1) := by decide +kernel
theorem dX9_layResults_2 : decode cX9_layResults 2 = .ok (.invokevirtual 229, 3) := by decide +kernel
theorem dX9_layResults_5 : decode cX9_layResults 5 = .ok (.aload_n 0, 1) := by decide +kernel
theorem dX9_layResults_6 : decode cX9_layResults 6 = .ok (.getfield 48, 3) := by decide +kernel
theorem dX9_layResults_9 : decode cX9_layResults 9 = .ok (.iconst 0, 1) := by decide +kernel
theorem dX9_layResults_10 : decode cX9_layResults 10 = .ok (.iconst 0, 1) := by decide +kernel
theorem dX9_layResults_11 : decode cX9_layResults 11 = .ok (.iastore, 1) := by decide +kernel
theorem dX9_layResults_12 : decode cX9_layResults 12 = .ok (.iconst 1, 1) := by decide +kernel
theorem dX9_layResults_13 : decode cX9_layResults 13 = .ok (.istore_n 3, 1) := by decide +kernel
theorem dX9_layResults_14 : decode cX9_layResults 14 = .ok (.iload_n 3, 1) := by decide +kernel
theorem dX9_layResults_15 : decode cX9_layResults 15 = .ok (.iconst 1, 1) := by decide +kernel
theorem dX9_layResults_16 : decode cX9_layResults 16 = .ok (.aload_n 0, 1) := by decide +kernel
theorem dX9_layResults_17 : decode cX9_layResults 17 = .ok (.getfield 226, 3) := by decide +kernel
theorem dX9_layResults_20 : decode cX9_layResults 20 = .ok (.ishl, 1) := by decide +kernel
theorem dX9_layResults_21 : decode cX9_layResults 21 = .ok (.if_icmp .ge 89, 3) := by decide +kernel
theorem dX9_layResults_24 : decode cX9_layResults 24 = .ok (.aload_n 0, 1) := by decide +kernel
theorem dX9_layResults_25 : decode cX9_layResults 25 = .ok (.lload_n 1, 1) := by decide +kernel
theorem dX9_layResults_26 : decode cX9_layResults 26 = .ok (.iload_n 3, 1) := by decide +kernel
theorem dX9_layResults_27 : decode cX9_layResults 27 = .ok (.invokevirtual 233, 3) := by decide +kernel
theorem dX9_layResults_30 : decode cX9_layResults 30 = .ok (.lstore 4, 2) := by decide +kernel
theorem dX9_layResults_32 : decode cX9_layResults 32 = .ok (.bipush (-100), 2) := by decide +kernel
theorem dX9_layResults_34 : decode cX9_layResults 34 = .ok (.istore 6, 2) := by decide +kernel
theorem dX9_layResults_36 : decode cX9_layResults 36 = .ok (.iconst 0, 1) := by decide +kernel
theorem dX9_layResults_37 : decode cX9_layResults 37 = .ok (.istore 7, 2) := by decide +kernel
theorem dX9_layResults_39 : decode cX9_layResults 39 = .ok (.iload 7, 2) := by decide +kernel
theorem dX9_layResults_41 : decode cX9_layResults 41 = .ok (.aload_n 0, 1) := by decide +kernel
theorem dX9_layResults_42 : decode cX9_layResults 42 = .ok (.getfield 226, 3) := by decide +kernel
theorem dX9_layResults_45 : decode cX9_layResults 45 = .ok (.if_icmp .ge 51, 3) := by decide +kernel
theorem dX9_layResults_48 : decode cX9_layResults 48 = .ok (.iload_n 3, 1) := by decide +kernel
theorem dX9_layResults_49 : decode cX9_layResults 49 = .ok (.i2l, 1) := by decide +kernel
theorem dX9_layResults_50 : decode cX9_layResults 50 = .ok (.iload 7, 2) := by decide +kernel
theorem dX9_layResults_52 : decode cX9_layResults 52 = .ok (.invokestatic 62, 3) := by decide +kernel
theorem dX9_layResults_55 : decode cX9_layResults 55 = .ok (.ifCond .eq 15, 3) := by decide +kernel
theorem dX9_layResults_58 : decode cX9_layResults 58 = .ok (.aload_n 0, 1) := by decide +kernel
theorem dX9_layResults_59 : decode cX9_layResults 59 = .ok (.lload 4, 2) := by decide +kernel
theorem dX9_layResults_61 : decode cX9_layResults 61 = .ok (.iload_n 3, 1) := by decide +kernel
theorem dX9_layResults_62 : decode cX9_layResults 62 = .ok (.iload 7, 2) := by decide +kernel
theorem dX9_layResults_64 : decode cX9_layResults 64 = .ok (.invokevirtual 237, 3) := by decide +kernel
theorem dX9_layResults_67 : decode cX9_layResults 67 = .ok (.goto 5, 3) := by decide +kernel
theorem dX9_layResults_70 : decode cX9_layResults 70 = .ok (.bipush (-100), 2) := by decide +kernel
theorem dX9_layResults_72 : decode cX9_layResults 72 = .ok (.istore 8, 2) := by decide +kernel
theorem dX9_layResults_74 : decode cX9_layResults 74 = .ok (.iload 8, 2) := by decide +kernel
theorem dX9_layResults_76 : decode cX9_layResults 76 = .ok (.iload 6, 2) := by decide +kernel
theorem dX9_layResults_78 : decode cX9_layResults 78 = .ok (.if_icmp .le 8, 3) := by decide +kernel
theorem dX9_layResults_81 : decode cX9_layResults 81 = .ok (.iload 8, 2) := by decide +kernel
theorem dX9_layResults_83 : decode cX9_layResults 83 = .ok (.goto 5, 3) := by decide +kernel
theorem dX9_layResults_86 : decode cX9_layResults 86 = .ok (.iload 6, 2) := by decide +kernel
theorem dX9_layResults_88 : decode cX9_layResults 88 = .ok (.istore 6, 2) := by decide +kernel
theorem dX9_layResults_90 : decode cX9_layResults 90 = .ok (.iinc 7 1, 3) := by decide +kernel
theorem dX9_layResults_93 : decode cX9_layResults 93 = .ok (.goto (-54), 3) := by decide +kernel
theorem dX9_layResults_96 : decode cX9_layResults 96 = .ok (.aload_n 0, 1) := by decide +kernel
theorem dX9_layResults_97 : decode cX9_layResults 97 = .ok (.getfield 48, 3) := by decide +kernel
theorem dX9_layResults_100 : decode cX9_layResults 100 = .ok (.iload_n 3, 1) := by decide +kernel
theorem dX9_layResults_101 : decode cX9_layResults 101 = .ok (.iload 6, 2) := by decide +kernel
theorem dX9_layResults_103 : decode cX9_layResults 103 = .ok (.iastore, 1) := by decide +kernel
theorem dX9_layResults_104 : decode cX9_layResults 104 = .ok (.iinc 3 1, 3) := by decide +kernel
theorem dX9_layResults_107 : decode cX9_layResults 107 = .ok (.goto (-93), 3) := by decide +kernel
theorem dX9_layResults_110 : decode cX9_layResults 110 = .ok (.return_, 1) := by decide +kernel
set_option maxRecDepth 20000 in
theorem ggX9_outcomeNow_X9_layResults : GoodIn wsX9_outcomeNow wsX9_layResults := goodIn_r _ [8, 2, 3, 9, 10, 11, 7, 12, 13, 14, 15, 16, 17, 18, 19, 20, 21, 22, 23, 24, 25, 26, 27, 28, 29, 30, 31, 32, 33, 34, 35, 36, 37, 38, 39, 40, 41, 42, 43, 44, 45, 46, 47, 48, 49, 50, 51, 52, 53, 54, 55, 56, 57, 58, 59, 60, 61, 62, 63, 64, 65, 66, 67, 68, 69, 70, 71, 72, 73, 74, 75, 76, 77, 78, 79, 80, 81, 82, 83, 84, 85, 86, 87, 88, 89, 90, 91, 92, 93, 94] (by decide +kernel) (by decide +kernel)
set_option maxRecDepth 20000 in
theorem gX9_outcomeNow_X9_layResults : GoodIn wsX9_outcomeNow (wsV RX9 241 RX9 yX9_layResults wsX9_layResults) := goodIn_app (goodIn_of _ (by decide +kernel)) ggX9_outcomeNow_X9_layResults
theorem dX9_outcomeNow_0 : decode cX9_outcomeNow 0 = .ok (.aload_n 0, 1) := by decide +kernel
theorem dX9_outcomeNow_1 : decode cX9_outcomeNow 1 = .ok (.aload_n 0, 1) := by decide +kernel
theorem dX9_outcomeNow_2 : decode cX9_outcomeNow 2 = .ok (.getfield 119, 3) := by decide +kernel
theorem dX9_outcomeNow_5 : decode cX9_outcomeNow 5 = .ok (.invokevirtual 241, 3) := by decide +kernel
theorem dX9_outcomeNow_8 : decode cX9_outcomeNow 8 = .ok (.aload_n 0, 1) := by decide +kernel
theorem dX9_outcomeNow_9 : decode cX9_outcomeNow 9 = .ok (.getfield 48, 3) := by decide +kernel
theorem dX9_outcomeNow_12 : decode cX9_outcomeNow 12 = .ok (.iconst 1, 1) := by decide +kernel
theorem dX9_outcomeNow_13 : decode cX9_outcomeNow 13 = .ok (.aload_n 0, 1) := by decide +kernel
theorem dX9_outcomeNow_14 : decode cX9_outcomeNow 14 = .ok (.getfield 226, 3) := by decide +kernel
theorem dX9_outcomeNow_17 : decode cX9_outcomeNow 17 = .ok (.ishl, 1) := by decide +kernel
theorem dX9_outcomeNow_18 : decode cX9_outcomeNow 18 = .ok (.iconst 1, 1) := by decide +kernel
theorem dX9_outcomeNow_19 : decode cX9_outcomeNow 19 = .ok (.isub, 1) := by decide +kernel
theorem dX9_outcomeNow_20 : decode cX9_outcomeNow 20 = .ok (.iaload, 1) := by decide +kernel
theorem dX9_outcomeNow_21 : decode cX9_outcomeNow 21 = .ok (.ireturn, 1) := by decide +kernel
set_option maxRecDepth 20000 in
theorem ggX9_outcome_X9_open : GoodIn wsX9_outcome wsX9_open := goodIn_r _ [7, 8, 9, 10, 6, 11, 12, 13, 14, 15, 16, 17, 18, 19, 20, 21, 22, 23, 82, 83, 84, 85, 86, 87, 88, 89, 90, 91, 92, 93, 94, 95, 96, 97, 98, 99, 100, 101, 102, 103, 104, 105, 106] (by decide +kernel) (by decide +kernel)
set_option maxRecDepth 20000 in
theorem gX9_outcome_X9_open : GoodIn wsX9_outcome (wsV RX9 244 RX9 yX9_open wsX9_open) := goodIn_app (goodIn_of _ (by decide +kernel)) ggX9_outcome_X9_open
set_option maxRecDepth 20000 in
theorem ggX9_outcome_X9_outcomeNow : GoodIn wsX9_outcome wsX9_outcomeNow := goodIn_r _ [27, 1, 28, 29, 30, 31, 32, 6, 33, 34, 35, 36, 37, 38, 8, 9, 10, 11, 12, 13, 14, 15, 16, 17, 21, 22, 23, 39, 40, 41, 42, 43, 44, 45, 46, 47, 48, 49, 50, 51, 52, 53, 54, 55, 56, 57, 58, 59, 60, 61, 62, 63, 64, 65, 66, 67, 68, 69, 70, 71, 72, 73, 74, 75, 76, 77, 78, 79, 80, 81, 82, 83, 84, 85, 86, 87, 88, 89, 90, 91, 92, 93, 94, 95, 96, 97, 98, 99, 100, 101, 102, 103, 104, 105, 106] (by decide +kernel) (by decide +kernel)
set_option maxRecDepth 20000 in
theorem gX9_outcome_X9_outcomeNow : GoodIn wsX9_outcome (wsV RX9 247 RX9 yX9_outcomeNow wsX9_outcomeNow) := goodIn_app (goodIn_of _ (by decide +kernel)) ggX9_outcome_X9_outcomeNow
theorem dX9_outcome_0 : decode cX9_outcome 0 = .ok (.aload_n 0, 1) := by decide +kernel
theorem dX9_outcome_1 : decode cX9_outcome 1 = .ok (.aload_n 0, 1) := by decide +kernel
theorem dX9_outcome_2 : decode cX9_outcome 2 = .ok (.aload_n 0, 1) := by decide +kernel
theorem dX9_outcome_3 : decode cX9_outcome 3 = .ok (.getfield 119, 3) := by decide +kernel
theorem dX9_outcome_6 : decode cX9_outcome 6 = .ok (.invokevirtual 244, 3) := by decide +kernel
theorem dX9_outcome_9 : decode cX9_outcome 9 = .ok (.bipush 12, 2) := by decide +kernel
theorem dX9_outcome_11 : decode cX9_outcome 11 = .ok (.if_icmp .gt 7, 3) := by decide +kernel
theorem dX9_outcome_14 : decode cX9_outcome 14 = .ok (.iconst 0, 1) := by decide +kernel
theorem dX9_outcome_15 : decode cX9_outcome 15 = .ok (.goto 4, 3) := by decide +kernel
theorem dX9_outcome_18 : decode cX9_outcome 18 = .ok (.iconst 1, 1) := by decide +kernel
theorem dX9_outcome_19 : decode cX9_outcome 19 = .ok (.putfield 59, 3) := by decide +kernel
theorem dX9_outcome_22 : decode cX9_outcome 22 = .ok (.aload_n 0, 1) := by decide +kernel
theorem dX9_outcome_23 : decode cX9_outcome 23 = .ok (.getfield 59, 3) := by decide +kernel
theorem dX9_outcome_26 : decode cX9_outcome 26 = .ok (.ifCond .le 7, 3) := by decide +kernel
theorem dX9_outcome_29 : decode cX9_outcome 29 = .ok (.iconst 0, 1) := by decide +kernel
theorem dX9_outcome_30 : decode cX9_outcome 30 = .ok (.goto 7, 3) := by decide +kernel
theorem dX9_outcome_33 : decode cX9_outcome 33 = .ok (.aload_n 0, 1) := by decide +kernel
theorem dX9_outcome_34 : decode cX9_outcome 34 = .ok (.invokevirtual 247, 3) := by decide +kernel
theorem dX9_outcome_37 : decode cX9_outcome 37 = .ok (.ireturn, 1) := by decide +kernel
set_option maxRecDepth 20000 in
theorem ggX9_worthIn_X9_resultOf : GoodIn wsX9_worthIn wsX9_resultOf := goodIn_r _ [7, 1, 8, 9, 10, 11, 6, 12, 13, 14, 15, 16, 17, 18, 19, 20, 21, 22, 23, 24, 25, 26, 27, 28, 29, 30, 31, 32, 33, 34, 35, 36, 37, 38, 39, 40, 41, 42, 43, 44, 45, 46, 47, 48, 49, 50, 51, 52, 53, 54, 55, 56, 57, 58, 59, 60, 61, 62, 63, 64, 65, 66, 67, 68, 69, 70, 71, 72, 73, 74, 75, 76, 77] (by decide +kernel) (by decide +kernel)
set_option maxRecDepth 20000 in
theorem gX9_worthIn_X9_resultOf : GoodIn wsX9_worthIn (wsV RX9 237 RX9 yX9_resultOf wsX9_resultOf) := goodIn_app (goodIn_of _ (by decide +kernel)) ggX9_worthIn_X9_resultOf
theorem dX9_worthIn_0 : decode cX9_worthIn 0 = .ok (.iconst 0, 1) := by decide +kernel
theorem dX9_worthIn_1 : decode cX9_worthIn 1 = .ok (.istore 4, 2) := by decide +kernel
theorem dX9_worthIn_3 : decode cX9_worthIn 3 = .ok (.aload_n 0, 1) := by decide +kernel
theorem dX9_worthIn_4 : decode cX9_worthIn 4 = .ok (.getfield 45, 3) := by decide +kernel
theorem dX9_worthIn_7 : decode cX9_worthIn 7 = .ok (.iload 4, 2) := by decide +kernel
theorem dX9_worthIn_9 : decode cX9_worthIn 9 = .ok (.iaload, 1) := by decide +kernel
theorem dX9_worthIn_10 : decode cX9_worthIn 10 = .ok (.iload_n 1, 1) := by decide +kernel
theorem dX9_worthIn_11 : decode cX9_worthIn 11 = .ok (.if_icmp .eq 9, 3) := by decide +kernel
theorem dX9_worthIn_14 : decode cX9_worthIn 14 = .ok (.iinc 4 1, 3) := by decide +kernel
theorem dX9_worthIn_17 : decode cX9_worthIn 17 = .ok (.goto (-14), 3) := by decide +kernel
theorem dX9_worthIn_20 : decode cX9_worthIn 20 = .ok (.aload_n 0, 1) := by decide +kernel
theorem dX9_worthIn_21 : decode cX9_worthIn 21 = .ok (.lload_n 2, 1) := by decide +kernel
theorem dX9_worthIn_22 : decode cX9_worthIn 22 = .ok (.iconst 1, 1) := by decide +kernel
theorem dX9_worthIn_23 : decode cX9_worthIn 23 = .ok (.aload_n 0, 1) := by decide +kernel
theorem dX9_worthIn_24 : decode cX9_worthIn 24 = .ok (.getfield 226, 3) := by decide +kernel
theorem dX9_worthIn_27 : decode cX9_worthIn 27 = .ok (.ishl, 1) := by decide +kernel
theorem dX9_worthIn_28 : decode cX9_worthIn 28 = .ok (.iconst 1, 1) := by decide +kernel
theorem dX9_worthIn_29 : decode cX9_worthIn 29 = .ok (.isub, 1) := by decide +kernel
theorem dX9_worthIn_30 : decode cX9_worthIn 30 = .ok (.iload 4, 2) := by decide +kernel
theorem dX9_worthIn_32 : decode cX9_worthIn 32 = .ok (.invokevirtual 237, 3) := by decide +kernel
theorem dX9_worthIn_35 : decode cX9_worthIn 35 = .ok (.ireturn, 1) := by decide +kernel
set_option maxRecDepth 20000 in
theorem ggX9_worthNow_X9_layResults : GoodIn wsX9_worthNow wsX9_layResults := goodIn_r _ [6, 7, 8, 9, 10, 11, 5, 12, 13, 14, 15, 16, 17, 18, 19, 20, 21, 22, 23, 24, 25, 26, 27, 28, 29, 30, 31, 32, 33, 34, 35, 36, 37, 38, 39, 40, 41, 42, 43, 44, 45, 46, 47, 48, 49, 50, 51, 52, 53, 54, 55, 56, 57, 58, 59, 60, 61, 62, 63, 64, 65, 66, 67, 68, 69, 74, 75, 76, 77, 78, 79, 80, 81, 82, 83, 84, 85, 86, 87, 88, 89, 90, 91, 92, 93, 94, 95, 96, 97, 98] (by decide +kernel) (by decide +kernel)
set_option maxRecDepth 20000 in
theorem gX9_worthNow_X9_layResults : GoodIn wsX9_worthNow (wsV RX9 241 RX9 yX9_layResults wsX9_layResults) := goodIn_app (goodIn_of _ (by decide +kernel)) ggX9_worthNow_X9_layResults
set_option maxRecDepth 20000 in
theorem ggX9_worthNow_X9_worthIn : GoodIn wsX9_worthNow wsX9_worthIn := goodIn_r _ [73, 13, 8, 31, 32, 33, 5, 34, 7, 35, 36, 37, 38, 39, 40, 41, 42, 19, 18, 43, 44, 45, 46, 47, 48, 49, 50, 20, 21, 22, 23, 51, 52, 53, 54, 55, 56, 57, 58, 59, 60, 61, 62, 63, 64, 65, 66, 67, 68, 69, 24, 25, 26, 74, 75, 76, 77, 78, 79, 80, 81, 82, 83, 84, 85, 86, 87, 88, 89, 90, 91, 92, 93, 94, 95, 96, 97, 98] (by decide +kernel) (by decide +kernel)
set_option maxRecDepth 20000 in
theorem gX9_worthNow_X9_worthIn : GoodIn wsX9_worthNow (wsV RX9 250 RX9 yX9_worthIn wsX9_worthIn) := goodIn_app (goodIn_of _ (by decide +kernel)) ggX9_worthNow_X9_worthIn
theorem dX9_worthNow_0 : decode cX9_worthNow 0 = .ok (.aload_n 0, 1) := by decide +kernel
theorem dX9_worthNow_1 : decode cX9_worthNow 1 = .ok (.aload_n 0, 1) := by decide +kernel
theorem dX9_worthNow_2 : decode cX9_worthNow 2 = .ok (.getfield 119, 3) := by decide +kernel
theorem dX9_worthNow_5 : decode cX9_worthNow 5 = .ok (.invokevirtual 241, 3) := by decide +kernel
theorem dX9_worthNow_8 : decode cX9_worthNow 8 = .ok (.aload_n 0, 1) := by decide +kernel
theorem dX9_worthNow_9 : decode cX9_worthNow 9 = .ok (.iload_n 1, 1) := by decide +kernel
theorem dX9_worthNow_10 : decode cX9_worthNow 10 = .ok (.aload_n 0, 1) := by decide +kernel
theorem dX9_worthNow_11 : decode cX9_worthNow 11 = .ok (.getfield 119, 3) := by decide +kernel
theorem dX9_worthNow_14 : decode cX9_worthNow 14 = .ok (.invokevirtual 250, 3) := by decide +kernel
theorem dX9_worthNow_17 : decode cX9_worthNow 17 = .ok (.ireturn, 1) := by decide +kernel
set_option maxRecDepth 20000 in
theorem ggX9_worth_X9_isLine : GoodIn wsX9_worth wsX9_isLine := goodIn_r _ [7, 8, 9, 10, 6, 11, 12, 13, 14, 15, 16, 17, 18, 19, 20, 90, 91, 92, 93, 94, 95, 96, 97, 98, 99, 100, 101, 102, 103, 104, 105, 106, 107, 108, 109, 110, 111, 112, 113, 114] (by decide +kernel) (by decide +kernel)
set_option maxRecDepth 20000 in
theorem gX9_worth_X9_isLine : GoodIn wsX9_worth (wsV RX9 129 RX9 yX9_isLine wsX9_isLine) := goodIn_app (goodIn_of _ (by decide +kernel)) ggX9_worth_X9_isLine
set_option maxRecDepth 20000 in
theorem ggX9_worth_X9_has : GoodIn wsX9_worth wsX9_has := goodIn_r _ [23] (by decide +kernel) (by decide +kernel)
set_option maxRecDepth 20000 in
theorem gX9_worth_X9_has : GoodIn wsX9_worth (va_wsS RX9 62 yX9_has wsX9_has) := goodIn_app (goodIn_of _ (by decide +kernel)) ggX9_worth_X9_has
set_option maxRecDepth 20000 in
theorem ggX9_worth_X9_open : GoodIn wsX9_worth wsX9_open := goodIn_r _ [27, 8, 9, 10, 6, 11, 12, 13, 14, 15, 16, 17, 28, 29, 30, 21, 22, 23, 90, 91, 92, 93, 94, 95, 96, 97, 98, 99, 100, 101, 102, 103, 104, 105, 106, 107, 108, 109, 110, 111, 112, 113, 114] (by decide +kernel) (by decide +kernel)
set_option maxRecDepth 20000 in
theorem gX9_worth_X9_open : GoodIn wsX9_worth (wsV RX9 244 RX9 yX9_open wsX9_open) := goodIn_app (goodIn_of _ (by decide +kernel)) ggX9_worth_X9_open
set_option maxRecDepth 20000 in
theorem ggX9_worth_X9_worthNow : GoodIn wsX9_worth wsX9_worthNow := goodIn_r _ [34, 1, 35, 36, 37, 6, 38, 39, 40, 41, 42, 43, 44, 45, 8, 9, 10, 11, 12, 13, 14, 15, 16, 17, 21, 22, 23, 46, 47, 48, 49, 50, 51, 52, 53, 54, 55, 56, 57, 58, 59, 60, 61, 62, 63, 64, 65, 66, 67, 68, 69, 70, 71, 72, 73, 18, 19, 20, 74, 75, 76, 77, 78, 79, 80, 81, 82, 83, 84, 85, 86, 87, 88, 89, 90, 91, 92, 93, 94, 95, 96, 97, 98, 99, 100, 101, 102, 103, 104, 105, 106, 107, 108, 109, 110, 111, 112, 113, 114] (by decide +kernel) (by decide +kernel)
set_option maxRecDepth 20000 in
theorem gX9_worth_X9_worthNow : GoodIn wsX9_worth (wsV RX9 253 RX9 yX9_worthNow wsX9_worthNow) := goodIn_app (goodIn_of _ (by decide +kernel)) ggX9_worth_X9_worthNow
theorem dX9_worth_0 : decode cX9_worth 0 = .ok (.aload_n 0, 1) := by decide +kernel
theorem dX9_worth_1 : decode cX9_worth 1 = .ok (.aload_n 0, 1) := by decide +kernel
theorem dX9_worth_2 : decode cX9_worth 2 = .ok (.iload_n 1, 1) := by decide +kernel
theorem dX9_worth_3 : decode cX9_worth 3 = .ok (.invokevirtual 129, 3) := by decide +kernel
theorem dX9_worth_6 : decode cX9_worth 6 = .ok (.ifCond .ne 7, 3) := by decide +kernel
theorem dX9_worth_9 : decode cX9_worth 9 = .ok (.iconst 1, 1) := by decide +kernel
theorem dX9_worth_10 : decode cX9_worth 10 = .ok (.goto 32, 3) := by decide +kernel
theorem dX9_worth_13 : decode cX9_worth 13 = .ok (.aload_n 0, 1) := by decide +kernel
theorem dX9_worth_14 : decode cX9_worth 14 = .ok (.getfield 119, 3) := by decide +kernel
theorem dX9_worth_17 : decode cX9_worth 17 = .ok (.iload_n 1, 1) := by decide +kernel
theorem dX9_worth_18 : decode cX9_worth 18 = .ok (.invokestatic 62, 3) := by decide +kernel
theorem dX9_worth_21 : decode cX9_worth 21 = .ok (.ifCond .ne 16, 3) := by decide +kernel
theorem dX9_worth_24 : decode cX9_worth 24 = .ok (.aload_n 0, 1) := by decide +kernel
theorem dX9_worth_25 : decode cX9_worth 25 = .ok (.aload_n 0, 1) := by decide +kernel
theorem dX9_worth_26 : decode cX9_worth 26 = .ok (.getfield 119, 3) := by decide +kernel
theorem dX9_worth_29 : decode cX9_worth 29 = .ok (.invokevirtual 244, 3) := by decide +kernel
theorem dX9_worth_32 : decode cX9_worth 32 = .ok (.bipush 12, 2) := by decide +kernel
theorem dX9_worth_34 : decode cX9_worth 34 = .ok (.if_icmp .le 7, 3) := by decide +kernel
theorem dX9_worth_37 : decode cX9_worth 37 = .ok (.iconst 2, 1) := by decide +kernel
theorem dX9_worth_38 : decode cX9_worth 38 = .ok (.goto 4, 3) := by decide +kernel
theorem dX9_worth_41 : decode cX9_worth 41 = .ok (.iconst 0, 1) := by decide +kernel
theorem dX9_worth_42 : decode cX9_worth 42 = .ok (.putfield 59, 3) := by decide +kernel
theorem dX9_worth_45 : decode cX9_worth 45 = .ok (.aload_n 0, 1) := by decide +kernel
theorem dX9_worth_46 : decode cX9_worth 46 = .ok (.getfield 59, 3) := by decide +kernel
theorem dX9_worth_49 : decode cX9_worth 49 = .ok (.ifCond .le 7, 3) := by decide +kernel
theorem dX9_worth_52 : decode cX9_worth 52 = .ok (.iconst 0, 1) := by decide +kernel
theorem dX9_worth_53 : decode cX9_worth 53 = .ok (.goto 8, 3) := by decide +kernel
theorem dX9_worth_56 : decode cX9_worth 56 = .ok (.aload_n 0, 1) := by decide +kernel
theorem dX9_worth_57 : decode cX9_worth 57 = .ok (.iload_n 1, 1) := by decide +kernel
theorem dX9_worth_58 : decode cX9_worth 58 = .ok (.invokevirtual 253, 3) := by decide +kernel
theorem dX9_worth_61 : decode cX9_worth 61 = .ok (.ireturn, 1) := by decide +kernel
theorem dX9_many_0 : decode cX9_many 0 = .ok (.aload_n 0, 1) := by decide +kernel
theorem dX9_many_1 : decode cX9_many 1 = .ok (.getfield 7, 3) := by decide +kernel
theorem dX9_many_4 : decode cX9_many 4 = .ok (.aload_n 0, 1) := by decide +kernel
theorem dX9_many_5 : decode cX9_many 5 = .ok (.getfield 13, 3) := by decide +kernel
theorem dX9_many_8 : decode cX9_many 8 = .ok (.if_icmp .ne 8, 3) := by decide +kernel
theorem dX9_many_11 : decode cX9_many 11 = .ok (.bipush 8, 2) := by decide +kernel
theorem dX9_many_13 : decode cX9_many 13 = .ok (.goto 4, 3) := by decide +kernel
theorem dX9_many_16 : decode cX9_many 16 = .ok (.iconst 4, 1) := by decide +kernel
theorem dX9_many_17 : decode cX9_many 17 = .ok (.ireturn, 1) := by decide +kernel
set_option maxRecDepth 20000 in
theorem ggX9_mapped_X9_isUpright : GoodIn wsX9_mapped wsX9_isUpright := goodIn_r _ [7, 8, 9, 10, 6, 11, 2, 1, 27, 28, 29, 30, 31, 32, 33, 34, 35, 36, 37, 38, 39, 40, 41, 42, 43, 44, 45, 46, 47, 48, 49, 50, 51] (by decide +kernel) (by decide +kernel)
set_option maxRecDepth 20000 in
theorem gX9_mapped_X9_isUpright : GoodIn wsX9_mapped (wsV RX9 80 RX9 yX9_isUpright wsX9_isUpright) := goodIn_app (goodIn_of _ (by decide +kernel)) ggX9_mapped_X9_isUpright
set_option maxRecDepth 20000 in
theorem ggX9_mapped_X9_columnOf : GoodIn wsX9_mapped wsX9_columnOf := goodIn_r _ [15, 1, 3, 4, 5, 6, 7, 8, 9, 10, 11, 2, 27, 28, 29, 30, 31, 32, 33, 34, 35, 36, 37, 38, 39, 40, 41, 42, 43, 44, 45, 46, 47, 48, 49, 50, 51] (by decide +kernel) (by decide +kernel)
set_option maxRecDepth 20000 in
theorem gX9_mapped_X9_columnOf : GoodIn wsX9_mapped (wsV RX9 84 RX9 yX9_columnOf wsX9_columnOf) := goodIn_app (goodIn_of _ (by decide +kernel)) ggX9_mapped_X9_columnOf
set_option maxRecDepth 20000 in
theorem ggX9_mapped_X9_rowOf : GoodIn wsX9_mapped wsX9_rowOf := goodIn_r _ [19, 1, 3, 4, 5, 6, 7, 8, 9, 10, 11, 2, 27, 28, 29, 30, 31, 32, 33, 34, 35, 36, 37, 38, 39, 40, 41, 42, 43, 44, 45, 46, 47, 48, 49, 50, 51] (by decide +kernel) (by decide +kernel)
set_option maxRecDepth 20000 in
theorem gX9_mapped_X9_rowOf : GoodIn wsX9_mapped (wsV RX9 88 RX9 yX9_rowOf wsX9_rowOf) := goodIn_app (goodIn_of _ (by decide +kernel)) ggX9_mapped_X9_rowOf
set_option maxRecDepth 20000 in
theorem ggX9_mapped_X9_has : GoodIn wsX9_mapped wsX9_has := goodIn_r _ [22] (by decide +kernel) (by decide +kernel)
set_option maxRecDepth 20000 in
theorem gX9_mapped_X9_has : GoodIn wsX9_mapped (va_wsS RX9 62 yX9_has wsX9_has) := goodIn_app (goodIn_of _ (by decide +kernel)) ggX9_mapped_X9_has
set_option maxRecDepth 20000 in
theorem ggX9_mapped_X9_numberOf : GoodIn wsX9_mapped wsX9_numberOf := goodIn_r _ [26, 1, 8, 9, 10, 6, 11, 2, 27, 28, 29, 30, 31, 32, 33, 34, 35, 36, 37, 38, 39, 40, 41, 42, 43, 44, 45, 46, 47, 48, 49, 50, 51] (by decide +kernel) (by decide +kernel)
set_option maxRecDepth 20000 in
theorem gX9_mapped_X9_numberOf : GoodIn wsX9_mapped (wsV RX9 91 RX9 yX9_numberOf wsX9_numberOf) := goodIn_app (goodIn_of _ (by decide +kernel)) ggX9_mapped_X9_numberOf
theorem dX9_mapped_0 : decode cX9_mapped 0 = .ok (.aload_n 0, 1) := by decide +kernel
theorem dX9_mapped_1 : decode cX9_mapped 1 = .ok (.iload_n 1, 1) := by decide +kernel
theorem dX9_mapped_2 : decode cX9_mapped 2 = .ok (.invokevirtual 80, 3) := by decide +kernel
theorem dX9_mapped_5 : decode cX9_mapped 5 = .ok (.istore_n 3, 1) := by decide +kernel
theorem dX9_mapped_6 : decode cX9_mapped 6 = .ok (.aload_n 0, 1) := by decide +kernel
theorem dX9_mapped_7 : decode cX9_mapped 7 = .ok (.iload_n 1, 1) := by decide +kernel
theorem dX9_mapped_8 : decode cX9_mapped 8 = .ok (.invokevirtual 84, 3) := by decide +kernel
theorem dX9_mapped_11 : decode cX9_mapped 11 = .ok (.istore 4, 2) := by decide +kernel
theorem dX9_mapped_13 : decode cX9_mapped 13 = .ok (.aload_n 0, 1) := by decide +kernel
theorem dX9_mapped_14 : decode cX9_mapped 14 = .ok (.iload_n 1, 1) := by decide +kernel
theorem dX9_mapped_15 : decode cX9_mapped 15 = .ok (.invokevirtual 88, 3) := by decide +kernel
theorem dX9_mapped_18 : decode cX9_mapped 18 = .ok (.istore 5, 2) := by decide +kernel
theorem dX9_mapped_20 : decode cX9_mapped 20 = .ok (.iload_n 2, 1) := by decide +kernel
theorem dX9_mapped_21 : decode cX9_mapped 21 = .ok (.i2l, 1) := by decide +kernel
theorem dX9_mapped_22 : decode cX9_mapped 22 = .ok (.iconst 0, 1) := by decide +kernel
theorem dX9_mapped_23 : decode cX9_mapped 23 = .ok (.invokestatic 62, 3) := by decide +kernel
theorem dX9_mapped_26 : decode cX9_mapped 26 = .ok (.ifCond .eq 26, 3) := by decide +kernel
theorem dX9_mapped_29 : decode cX9_mapped 29 = .ok (.iload_n 3, 1) := by decide +kernel
theorem dX9_mapped_30 : decode cX9_mapped 30 = .ok (.ifCond .eq 10, 3) := by decide +kernel
theorem dX9_mapped_33 : decode cX9_mapped 33 = .ok (.aload_n 0, 1) := by decide +kernel
theorem dX9_mapped_34 : decode cX9_mapped 34 = .ok (.getfield 7, 3) := by decide +kernel
theorem dX9_mapped_37 : decode cX9_mapped 37 = .ok (.goto 9, 3) := by decide +kernel
theorem dX9_mapped_40 : decode cX9_mapped 40 = .ok (.aload_n 0, 1) := by decide +kernel
theorem dX9_mapped_41 : decode cX9_mapped 41 = .ok (.getfield 7, 3) := by decide +kernel
theorem dX9_mapped_44 : decode cX9_mapped 44 = .ok (.iconst 1, 1) := by decide +kernel
theorem dX9_mapped_45 : decode cX9_mapped 45 = .ok (.isub, 1) := by decide +kernel
theorem dX9_mapped_46 : decode cX9_mapped 46 = .ok (.iload 4, 2) := by decide +kernel
theorem dX9_mapped_48 : decode cX9_mapped 48 = .ok (.isub, 1) := by decide +kernel
theorem dX9_mapped_49 : decode cX9_mapped 49 = .ok (.goto 5, 3) := by decide +kernel
theorem dX9_mapped_52 : decode cX9_mapped 52 = .ok (.iload 4, 2) := by decide +kernel
theorem dX9_mapped_54 : decode cX9_mapped 54 = .ok (.istore 4, 2) := by decide +kernel
theorem dX9_mapped_56 : decode cX9_mapped 56 = .ok (.iload_n 2, 1) := by decide +kernel
theorem dX9_mapped_57 : decode cX9_mapped 57 = .ok (.i2l, 1) := by decide +kernel
theorem dX9_mapped_58 : decode cX9_mapped 58 = .ok (.iconst 1, 1) := by decide +kernel
theorem dX9_mapped_59 : decode cX9_mapped 59 = .ok (.invokestatic 62, 3) := by decide +kernel
theorem dX9_mapped_62 : decode cX9_mapped 62 = .ok (.ifCond .eq 26, 3) := by decide +kernel
theorem dX9_mapped_65 : decode cX9_mapped 65 = .ok (.iload_n 3, 1) := by decide +kernel
theorem dX9_mapped_66 : decode cX9_mapped 66 = .ok (.ifCond .eq 12, 3) := by decide +kernel
theorem dX9_mapped_69 : decode cX9_mapped 69 = .ok (.aload_n 0, 1) := by decide +kernel
theorem dX9_mapped_70 : decode cX9_mapped 70 = .ok (.getfield 13, 3) := by decide +kernel
theorem dX9_mapped_73 : decode cX9_mapped 73 = .ok (.iconst 1, 1) := by decide +kernel
theorem dX9_mapped_74 : decode cX9_mapped 74 = .ok (.isub, 1) := by decide +kernel
theorem dX9_mapped_75 : decode cX9_mapped 75 = .ok (.goto 7, 3) := by decide +kernel
theorem dX9_mapped_78 : decode cX9_mapped 78 = .ok (.aload_n 0, 1) := by decide +kernel
theorem dX9_mapped_79 : decode cX9_mapped 79 = .ok (.getfield 13, 3) := by decide +kernel
theorem dX9_mapped_82 : decode cX9_mapped 82 = .ok (.iload 5, 2) := by decide +kernel
theorem dX9_mapped_84 : decode cX9_mapped 84 = .ok (.isub, 1) := by decide +kernel
theorem dX9_mapped_85 : decode cX9_mapped 85 = .ok (.goto 5, 3) := by decide +kernel
theorem dX9_mapped_88 : decode cX9_mapped 88 = .ok (.iload 5, 2) := by decide +kernel
theorem dX9_mapped_90 : decode cX9_mapped 90 = .ok (.istore 5, 2) := by decide +kernel
theorem dX9_mapped_92 : decode cX9_mapped 92 = .ok (.iload_n 2, 1) := by decide +kernel
theorem dX9_mapped_93 : decode cX9_mapped 93 = .ok (.i2l, 1) := by decide +kernel
theorem dX9_mapped_94 : decode cX9_mapped 94 = .ok (.iconst 2, 1) := by decide +kernel
theorem dX9_mapped_95 : decode cX9_mapped 95 = .ok (.invokestatic 62, 3) := by decide +kernel
theorem dX9_mapped_98 : decode cX9_mapped 98 = .ok (.ifCond .eq 23, 3) := by decide +kernel
theorem dX9_mapped_101 : decode cX9_mapped 101 = .ok (.aload_n 0, 1) := by decide +kernel
theorem dX9_mapped_102 : decode cX9_mapped 102 = .ok (.iload_n 3, 1) := by decide +kernel
theorem dX9_mapped_103 : decode cX9_mapped 103 = .ok (.ifCond .ne 7, 3) := by decide +kernel
theorem dX9_mapped_106 : decode cX9_mapped 106 = .ok (.iconst 1, 1) := by decide +kernel
theorem dX9_mapped_107 : decode cX9_mapped 107 = .ok (.goto 4, 3) := by decide +kernel
theorem dX9_mapped_110 : decode cX9_mapped 110 = .ok (.iconst 0, 1) := by decide +kernel
theorem dX9_mapped_111 : decode cX9_mapped 111 = .ok (.iload 5, 2) := by decide +kernel
theorem dX9_mapped_113 : decode cX9_mapped 113 = .ok (.iload 4, 2) := by decide +kernel
theorem dX9_mapped_115 : decode cX9_mapped 115 = .ok (.invokevirtual 91, 3) := by decide +kernel
theorem dX9_mapped_118 : decode cX9_mapped 118 = .ok (.goto 12, 3) := by decide +kernel
theorem dX9_mapped_121 : decode cX9_mapped 121 = .ok (.aload_n 0, 1) := by decide +kernel
theorem dX9_mapped_122 : decode cX9_mapped 122 = .ok (.iload_n 3, 1) := by decide +kernel
theorem dX9_mapped_123 : decode cX9_mapped 123 = .ok (.iload 4, 2) := by decide +kernel
theorem dX9_mapped_125 : decode cX9_mapped 125 = .ok (.iload 5, 2) := by decide +kernel
theorem dX9_mapped_127 : decode cX9_mapped 127 = .ok (.invokevirtual 91, 3) := by decide +kernel
theorem dX9_mapped_130 : decode cX9_mapped 130 = .ok (.ireturn, 1) := by decide +kernel
set_option maxRecDepth 20000 in
theorem ggX9_mappedSet_X9_all : GoodIn wsX9_mappedSet wsX9_all := goodIn_r _ [5, 6, 7, 8, 9, 10, 4, 11, 35, 36, 37, 38, 39, 40, 41, 42, 43, 44, 45, 46, 47, 48, 49, 50, 51, 52, 53, 54, 55, 56, 57, 58, 59] (by decide +kernel) (by decide +kernel)
set_option maxRecDepth 20000 in
theorem gX9_mappedSet_X9_all : GoodIn wsX9_mappedSet (wsV RX9 70 RX9 yX9_all wsX9_all) := goodIn_app (goodIn_of _ (by decide +kernel)) ggX9_mappedSet_X9_all
set_option maxRecDepth 20000 in
theorem ggX9_mappedSet_X9_has : GoodIn wsX9_mappedSet wsX9_has := goodIn_r _ [14] (by decide +kernel) (by decide +kernel)
set_option maxRecDepth 20000 in
theorem gX9_mappedSet_X9_has : GoodIn wsX9_mappedSet (va_wsS RX9 62 yX9_has wsX9_has) := goodIn_app (goodIn_of _ (by decide +kernel)) ggX9_mappedSet_X9_has
set_option maxRecDepth 20000 in
theorem ggX9_mappedSet_X9_mapped : GoodIn wsX9_mappedSet wsX9_mapped := goodIn_r _ [18, 7, 6, 19, 20, 21, 4, 22, 8, 9, 10, 11, 23, 24, 25, 26, 27, 28, 29, 30, 12, 13, 14, 31, 32, 33, 34, 35, 36, 37, 38, 39, 40, 41, 42, 43, 44, 45, 46, 47, 48, 49, 50, 51, 52, 53, 54, 55, 56, 57, 58, 59] (by decide +kernel) (by decide +kernel)
set_option maxRecDepth 20000 in
theorem gX9_mappedSet_X9_mapped : GoodIn wsX9_mappedSet (wsV RX9 256 RX9 yX9_mapped wsX9_mapped) := goodIn_app (goodIn_of _ (by decide +kernel)) ggX9_mappedSet_X9_mapped
theorem dX9_mappedSet_0 : decode cX9_mappedSet 0 = .ok (.lconst 0, 1) := by decide +kernel
theorem dX9_mappedSet_1 : decode cX9_mappedSet 1 = .ok (.lstore 4, 2) := by decide +kernel
theorem dX9_mappedSet_3 : decode cX9_mappedSet 3 = .ok (.iconst 0, 1) := by decide +kernel
theorem dX9_mappedSet_4 : decode cX9_mappedSet 4 = .ok (.istore 6, 2) := by decide +kernel
theorem dX9_mappedSet_6 : decode cX9_mappedSet 6 = .ok (.iload 6, 2) := by decide +kernel
theorem dX9_mappedSet_8 : decode cX9_mappedSet 8 = .ok (.aload_n 0, 1) := by decide +kernel
theorem dX9_mappedSet_9 : decode cX9_mappedSet 9 = .ok (.invokevirtual 70, 3) := by decide +kernel
theorem dX9_mappedSet_12 : decode cX9_mappedSet 12 = .ok (.if_icmp .ge 36, 3) := by decide +kernel
theorem dX9_mappedSet_15 : decode cX9_mappedSet 15 = .ok (.lload 4, 2) := by decide +kernel
theorem dX9_mappedSet_17 : decode cX9_mappedSet 17 = .ok (.lload_n 1, 1) := by decide +kernel
theorem dX9_mappedSet_18 : decode cX9_mappedSet 18 = .ok (.iload 6, 2) := by decide +kernel
theorem dX9_mappedSet_20 : decode cX9_mappedSet 20 = .ok (.invokestatic 62, 3) := by decide +kernel
theorem dX9_mappedSet_23 : decode cX9_mappedSet 23 = .ok (.ifCond .eq 15, 3) := by decide +kernel
theorem dX9_mappedSet_26 : decode cX9_mappedSet 26 = .ok (.lconst 1, 1) := by decide +kernel
theorem dX9_mappedSet_27 : decode cX9_mappedSet 27 = .ok (.aload_n 0, 1) := by decide +kernel
theorem dX9_mappedSet_28 : decode cX9_mappedSet 28 = .ok (.iload 6, 2) := by decide +kernel
theorem dX9_mappedSet_30 : decode cX9_mappedSet 30 = .ok (.iload_n 3, 1) := by decide +kernel
theorem dX9_mappedSet_31 : decode cX9_mappedSet 31 = .ok (.invokevirtual 256, 3) := by decide +kernel
theorem dX9_mappedSet_34 : decode cX9_mappedSet 34 = .ok (.lshl, 1) := by decide +kernel
theorem dX9_mappedSet_35 : decode cX9_mappedSet 35 = .ok (.goto 4, 3) := by decide +kernel
theorem dX9_mappedSet_38 : decode cX9_mappedSet 38 = .ok (.lconst 0, 1) := by decide +kernel
theorem dX9_mappedSet_39 : decode cX9_mappedSet 39 = .ok (.lor, 1) := by decide +kernel
theorem dX9_mappedSet_40 : decode cX9_mappedSet 40 = .ok (.lstore 4, 2) := by decide +kernel
theorem dX9_mappedSet_42 : decode cX9_mappedSet 42 = .ok (.iinc 6 1, 3) := by decide +kernel
theorem dX9_mappedSet_45 : decode cX9_mappedSet 45 = .ok (.goto (-39), 3) := by decide +kernel
theorem dX9_mappedSet_48 : decode cX9_mappedSet 48 = .ok (.lload 4, 2) := by decide +kernel
theorem dX9_mappedSet_50 : decode cX9_mappedSet 50 = .ok (.lreturn, 1) := by decide +kernel
set_option maxRecDepth 20000 in
theorem ggX9_leastCode_X9_many : GoodIn wsX9_leastCode wsX9_many := goodIn_r _ [5, 6, 7, 43, 44, 45, 46, 47, 48, 49, 50, 51, 52, 53, 54, 55, 56, 57, 58, 59, 60, 61, 62, 63, 64, 65, 66, 67] (by decide +kernel) (by decide +kernel)
set_option maxRecDepth 20000 in
theorem gX9_leastCode_X9_many : GoodIn wsX9_leastCode (wsV RX9 259 RX9 yX9_many wsX9_many) := goodIn_app (goodIn_of _ (by decide +kernel)) ggX9_leastCode_X9_many
set_option maxRecDepth 20000 in
theorem ggX9_leastCode_X9_mappedSet : GoodIn wsX9_leastCode wsX9_mappedSet := goodIn_r _ [11, 12, 13, 14, 4, 15, 7, 6, 16, 17, 18, 19, 20, 21, 22, 23, 24, 25, 26, 27, 28, 29, 30, 31, 32, 33, 34, 35, 36, 37, 38, 39, 40, 41, 42, 43, 44, 45, 46, 47, 48, 49, 50, 51, 52, 53, 54, 55, 56, 57, 58, 59, 60, 61, 62, 63, 64, 65, 66, 67] (by decide +kernel) (by decide +kernel)
set_option maxRecDepth 20000 in
theorem gX9_leastCode_X9_mappedSet : GoodIn wsX9_leastCode (wsV RX9 262 RX9 yX9_mappedSet wsX9_mappedSet) := goodIn_app (goodIn_of _ (by decide +kernel)) ggX9_leastCode_X9_mappedSet
theorem dX9_leastCode_0 : decode cX9_leastCode 0 = .ok (.lload_n 1, 1) := by decide +kernel
theorem dX9_leastCode_1 : decode cX9_leastCode 1 = .ok (.lstore_n 3, 1) := by decide +kernel
theorem dX9_leastCode_2 : decode cX9_leastCode 2 = .ok (.iconst 1, 1) := by decide +kernel
theorem dX9_leastCode_3 : decode cX9_leastCode 3 = .ok (.istore 5, 2) := by decide +kernel
theorem dX9_leastCode_5 : decode cX9_leastCode 5 = .ok (.iload 5, 2) := by decide +kernel
theorem dX9_leastCode_7 : decode cX9_leastCode 7 = .ok (.aload_n 0, 1) := by decide +kernel
theorem dX9_leastCode_8 : decode cX9_leastCode 8 = .ok (.invokevirtual 259, 3) := by decide +kernel
theorem dX9_leastCode_11 : decode cX9_leastCode 11 = .ok (.if_icmp .ge 32, 3) := by decide +kernel
theorem dX9_leastCode_14 : decode cX9_leastCode 14 = .ok (.aload_n 0, 1) := by decide +kernel
theorem dX9_leastCode_15 : decode cX9_leastCode 15 = .ok (.lload_n 1, 1) := by decide +kernel
theorem dX9_leastCode_16 : decode cX9_leastCode 16 = .ok (.iload 5, 2) := by decide +kernel
theorem dX9_leastCode_18 : decode cX9_leastCode 18 = .ok (.invokevirtual 262, 3) := by decide +kernel
theorem dX9_leastCode_21 : decode cX9_leastCode 21 = .ok (.lstore 6, 2) := by decide +kernel
theorem dX9_leastCode_23 : decode cX9_leastCode 23 = .ok (.lload 6, 2) := by decide +kernel
theorem dX9_leastCode_25 : decode cX9_leastCode 25 = .ok (.lload_n 3, 1) := by decide +kernel
theorem dX9_leastCode_26 : decode cX9_leastCode 26 = .ok (.lcmp, 1) := by decide +kernel
theorem dX9_leastCode_27 : decode cX9_leastCode 27 = .ok (.ifCond .ge 8, 3) := by decide +kernel
theorem dX9_leastCode_30 : decode cX9_leastCode 30 = .ok (.lload 6, 2) := by decide +kernel
theorem dX9_leastCode_32 : decode cX9_leastCode 32 = .ok (.goto 4, 3) := by decide +kernel
theorem dX9_leastCode_35 : decode cX9_leastCode 35 = .ok (.lload_n 3, 1) := by decide +kernel
theorem dX9_leastCode_36 : decode cX9_leastCode 36 = .ok (.lstore_n 3, 1) := by decide +kernel
theorem dX9_leastCode_37 : decode cX9_leastCode 37 = .ok (.iinc 5 1, 3) := by decide +kernel
theorem dX9_leastCode_40 : decode cX9_leastCode 40 = .ok (.goto (-35), 3) := by decide +kernel
theorem dX9_leastCode_43 : decode cX9_leastCode 43 = .ok (.lload_n 3, 1) := by decide +kernel
theorem dX9_leastCode_44 : decode cX9_leastCode 44 = .ok (.lreturn, 1) := by decide +kernel
set_option maxRecDepth 20000 in
theorem ggX9_canonical_X9_leastCode : GoodIn wsX9_canonical wsX9_leastCode := goodIn_r _ [7, 8, 9, 10, 6, 11, 12, 13, 14, 15, 16, 17, 18, 19, 20, 21, 22, 23, 24, 25, 26, 27, 28, 29, 30, 31, 32, 33, 34, 35, 36, 37, 38, 39, 40, 41, 42, 43, 44, 45, 46, 47, 48, 49, 50, 51, 52, 53, 54, 55, 56, 57, 58, 59, 60, 61, 62, 63, 64, 65, 66, 67, 68, 69, 70, 71, 72, 73] (by decide +kernel) (by decide +kernel)
set_option maxRecDepth 20000 in
theorem gX9_canonical_X9_leastCode : GoodIn wsX9_canonical (wsV RX9 265 RX9 yX9_leastCode wsX9_leastCode) := goodIn_app (goodIn_of _ (by decide +kernel)) ggX9_canonical_X9_leastCode
theorem dX9_canonical_0 : decode cX9_canonical 0 = .ok (.aload_n 0, 1) := by decide +kernel
theorem dX9_canonical_1 : decode cX9_canonical 1 = .ok (.iconst 0, 1) := by decide +kernel
theorem dX9_canonical_2 : decode cX9_canonical 2 = .ok (.putfield 59, 3) := by decide +kernel
theorem dX9_canonical_5 : decode cX9_canonical 5 = .ok (.aload_n 0, 1) := by decide +kernel
theorem dX9_canonical_6 : decode cX9_canonical 6 = .ok (.aload_n 0, 1) := by decide +kernel
theorem dX9_canonical_7 : decode cX9_canonical 7 = .ok (.getfield 119, 3) := by decide +kernel
theorem dX9_canonical_10 : decode cX9_canonical 10 = .ok (.invokevirtual 265, 3) := by decide +kernel
theorem dX9_canonical_13 : decode cX9_canonical 13 = .ok (.lreturn, 1) := by decide +kernel
set_option maxRecDepth 20000 in
theorem ggX9_fixing_X9_many : GoodIn wsX9_fixing wsX9_many := goodIn_r _ [6, 7, 8, 44, 45, 46, 47, 48, 49, 50, 51, 52, 53, 54, 55, 56, 57, 58, 59, 60, 61, 62, 63, 64, 65, 66, 67, 68] (by decide +kernel) (by decide +kernel)
set_option maxRecDepth 20000 in
theorem gX9_fixing_X9_many : GoodIn wsX9_fixing (wsV RX9 259 RX9 yX9_many wsX9_many) := goodIn_app (goodIn_of _ (by decide +kernel)) ggX9_fixing_X9_many
set_option maxRecDepth 20000 in
theorem ggX9_fixing_X9_mappedSet : GoodIn wsX9_fixing wsX9_mappedSet := goodIn_r _ [12, 13, 14, 15, 5, 16, 8, 7, 17, 18, 19, 20, 21, 22, 23, 24, 25, 26, 27, 28, 29, 30, 31, 32, 33, 34, 35, 36, 37, 38, 39, 40, 41, 42, 43, 44, 45, 46, 47, 48, 49, 50, 51, 52, 53, 54, 55, 56, 57, 58, 59, 60, 61, 62, 63, 64, 65, 66, 67, 68] (by decide +kernel) (by decide +kernel)
set_option maxRecDepth 20000 in
theorem gX9_fixing_X9_mappedSet : GoodIn wsX9_fixing (wsV RX9 262 RX9 yX9_mappedSet wsX9_mappedSet) := goodIn_app (goodIn_of _ (by decide +kernel)) ggX9_fixing_X9_mappedSet
theorem dX9_fixing_0 : decode cX9_fixing 0 = .ok (.iconst 0, 1) := by decide +kernel
theorem dX9_fixing_1 : decode cX9_fixing 1 = .ok (.istore_n 1, 1) := by decide +kernel
theorem dX9_fixing_2 : decode cX9_fixing 2 = .ok (.iconst 0, 1) := by decide +kernel
theorem dX9_fixing_3 : decode cX9_fixing 3 = .ok (.istore_n 2, 1) := by decide +kernel
theorem dX9_fixing_4 : decode cX9_fixing 4 = .ok (.iload_n 2, 1) := by decide +kernel
theorem dX9_fixing_5 : decode cX9_fixing 5 = .ok (.aload_n 0, 1) := by decide +kernel
theorem dX9_fixing_6 : decode cX9_fixing 6 = .ok (.invokevirtual 259, 3) := by decide +kernel
theorem dX9_fixing_9 : decode cX9_fixing 9 = .ok (.if_icmp .ge 34, 3) := by decide +kernel
theorem dX9_fixing_12 : decode cX9_fixing 12 = .ok (.iload_n 1, 1) := by decide +kernel
theorem dX9_fixing_13 : decode cX9_fixing 13 = .ok (.aload_n 0, 1) := by decide +kernel
theorem dX9_fixing_14 : decode cX9_fixing 14 = .ok (.aload_n 0, 1) := by decide +kernel
theorem dX9_fixing_15 : decode cX9_fixing 15 = .ok (.getfield 119, 3) := by decide +kernel
theorem dX9_fixing_18 : decode cX9_fixing 18 = .ok (.iload_n 2, 1) := by decide +kernel
theorem dX9_fixing_19 : decode cX9_fixing 19 = .ok (.invokevirtual 262, 3) := by decide +kernel
theorem dX9_fixing_22 : decode cX9_fixing 22 = .ok (.aload_n 0, 1) := by decide +kernel
theorem dX9_fixing_23 : decode cX9_fixing 23 = .ok (.getfield 119, 3) := by decide +kernel
theorem dX9_fixing_26 : decode cX9_fixing 26 = .ok (.lcmp, 1) := by decide +kernel
theorem dX9_fixing_27 : decode cX9_fixing 27 = .ok (.ifCond .ne 7, 3) := by decide +kernel
theorem dX9_fixing_30 : decode cX9_fixing 30 = .ok (.iconst 1, 1) := by decide +kernel
theorem dX9_fixing_31 : decode cX9_fixing 31 = .ok (.goto 4, 3) := by decide +kernel
theorem dX9_fixing_34 : decode cX9_fixing 34 = .ok (.iconst 0, 1) := by decide +kernel
theorem dX9_fixing_35 : decode cX9_fixing 35 = .ok (.iadd, 1) := by decide +kernel
theorem dX9_fixing_36 : decode cX9_fixing 36 = .ok (.istore_n 1, 1) := by decide +kernel
theorem dX9_fixing_37 : decode cX9_fixing 37 = .ok (.iinc 2 1, 3) := by decide +kernel
theorem dX9_fixing_40 : decode cX9_fixing 40 = .ok (.goto (-36), 3) := by decide +kernel
theorem dX9_fixing_43 : decode cX9_fixing 43 = .ok (.iload_n 1, 1) := by decide +kernel
theorem dX9_fixing_44 : decode cX9_fixing 44 = .ok (.ireturn, 1) := by decide +kernel
set_option maxRecDepth 20000 in
theorem ggX9_symmetries_X9_fixing : GoodIn wsX9_symmetries wsX9_fixing := goodIn_r _ [6, 7, 8, 9, 10, 5, 11, 12, 13, 14, 15, 16, 17, 18, 19, 20, 21, 22, 23, 24, 25, 26, 27, 28, 29, 30, 31, 32, 33, 34, 35, 36, 37, 38, 39, 40, 41, 42, 43, 44, 45, 46, 47, 48, 49, 50, 51, 52, 53, 54, 55, 56, 57, 58, 59, 60, 61, 62, 63, 64, 65, 66, 67, 68, 69, 70, 71, 72, 73] (by decide +kernel) (by decide +kernel)
set_option maxRecDepth 20000 in
theorem gX9_symmetries_X9_fixing : GoodIn wsX9_symmetries (wsV RX9 269 RX9 yX9_fixing wsX9_fixing) := goodIn_app (goodIn_of _ (by decide +kernel)) ggX9_symmetries_X9_fixing
theorem dX9_symmetries_0 : decode cX9_symmetries 0 = .ok (.aload_n 0, 1) := by decide +kernel
theorem dX9_symmetries_1 : decode cX9_symmetries 1 = .ok (.iconst 0, 1) := by decide +kernel
theorem dX9_symmetries_2 : decode cX9_symmetries 2 = .ok (.putfield 59, 3) := by decide +kernel
theorem dX9_symmetries_5 : decode cX9_symmetries 5 = .ok (.aload_n 0, 1) := by decide +kernel
theorem dX9_symmetries_6 : decode cX9_symmetries 6 = .ok (.invokevirtual 269, 3) := by decide +kernel
theorem dX9_symmetries_9 : decode cX9_symmetries 9 = .ok (.ireturn, 1) := by decide +kernel
set_option maxRecDepth 20000 in
theorem ggX9_followers_X9_all : GoodIn wsX9_followers wsX9_all := goodIn_r _ [8, 9, 10, 11, 12, 13, 7, 14, 50, 51, 52, 53, 54, 55, 56, 57, 58, 59, 60, 61, 62, 63, 64, 65, 66, 67, 68, 69, 70, 71, 72, 73, 74] (by decide +kernel) (by decide +kernel)
set_option maxRecDepth 20000 in
theorem gX9_followers_X9_all : GoodIn wsX9_followers (wsV RX9 70 RX9 yX9_all wsX9_all) := goodIn_app (goodIn_of _ (by decide +kernel)) ggX9_followers_X9_all
set_option maxRecDepth 20000 in
theorem ggX9_followers_X9_has : GoodIn wsX9_followers wsX9_has := goodIn_r _ [17] (by decide +kernel) (by decide +kernel)
set_option maxRecDepth 20000 in
theorem gX9_followers_X9_has : GoodIn wsX9_followers (va_wsS RX9 62 yX9_has wsX9_has) := goodIn_app (goodIn_of _ (by decide +kernel)) ggX9_followers_X9_has
set_option maxRecDepth 20000 in
theorem ggX9_followers_X9_leastCode : GoodIn wsX9_followers wsX9_leastCode := goodIn_r _ [21, 22, 23, 24, 7, 25, 10, 9, 26, 27, 28, 29, 4, 5, 6, 8, 11, 12, 13, 14, 15, 16, 17, 30, 31, 32, 33, 34, 35, 36, 37, 38, 39, 40, 41, 42, 43, 44, 45, 46, 47, 48, 49, 50, 51, 52, 53, 54, 55, 56, 57, 58, 59, 60, 61, 62, 63, 64, 65, 66, 67, 68, 69, 70, 71, 72, 73, 74] (by decide +kernel) (by decide +kernel)
set_option maxRecDepth 20000 in
theorem gX9_followers_X9_leastCode : GoodIn wsX9_followers (wsV RX9 265 RX9 yX9_leastCode wsX9_leastCode) := goodIn_app (goodIn_of _ (by decide +kernel)) ggX9_followers_X9_leastCode
theorem dX9_followers_0 : decode cX9_followers 0 = .ok (.aload_n 0, 1) := by decide +kernel
theorem dX9_followers_1 : decode cX9_followers 1 = .ok (.iconst 0, 1) := by decide +kernel
theorem dX9_followers_2 : decode cX9_followers 2 = .ok (.putfield 59, 3) := by decide +kernel
theorem dX9_followers_5 : decode cX9_followers 5 = .ok (.iconst 0, 1) := by decide +kernel
theorem dX9_followers_6 : decode cX9_followers 6 = .ok (.istore_n 1, 1) := by decide +kernel
theorem dX9_followers_7 : decode cX9_followers 7 = .ok (.iconst 0, 1) := by decide +kernel
theorem dX9_followers_8 : decode cX9_followers 8 = .ok (.istore_n 2, 1) := by decide +kernel
theorem dX9_followers_9 : decode cX9_followers 9 = .ok (.iload_n 2, 1) := by decide +kernel
theorem dX9_followers_10 : decode cX9_followers 10 = .ok (.aload_n 0, 1) := by decide +kernel
theorem dX9_followers_11 : decode cX9_followers 11 = .ok (.invokevirtual 70, 3) := by decide +kernel
theorem dX9_followers_14 : decode cX9_followers 14 = .ok (.if_icmp .ge 75, 3) := by decide +kernel
theorem dX9_followers_17 : decode cX9_followers 17 = .ok (.aload_n 0, 1) := by decide +kernel
theorem dX9_followers_18 : decode cX9_followers 18 = .ok (.getfield 119, 3) := by decide +kernel
theorem dX9_followers_21 : decode cX9_followers 21 = .ok (.iload_n 2, 1) := by decide +kernel
theorem dX9_followers_22 : decode cX9_followers 22 = .ok (.invokestatic 62, 3) := by decide +kernel
theorem dX9_followers_25 : decode cX9_followers 25 = .ok (.ifCond .ne 58, 3) := by decide +kernel
theorem dX9_followers_28 : decode cX9_followers 28 = .ok (.aload_n 0, 1) := by decide +kernel
theorem dX9_followers_29 : decode cX9_followers 29 = .ok (.getfield 51, 3) := by decide +kernel
theorem dX9_followers_32 : decode cX9_followers 32 = .ok (.iload_n 1, 1) := by decide +kernel
theorem dX9_followers_33 : decode cX9_followers 33 = .ok (.aload_n 0, 1) := by decide +kernel
theorem dX9_followers_34 : decode cX9_followers 34 = .ok (.aload_n 0, 1) := by decide +kernel
theorem dX9_followers_35 : decode cX9_followers 35 = .ok (.getfield 119, 3) := by decide +kernel
theorem dX9_followers_38 : decode cX9_followers 38 = .ok (.lconst 1, 1) := by decide +kernel
theorem dX9_followers_39 : decode cX9_followers 39 = .ok (.iload_n 2, 1) := by decide +kernel
theorem dX9_followers_40 : decode cX9_followers 40 = .ok (.lshl, 1) := by decide +kernel
theorem dX9_followers_41 : decode cX9_followers 41 = .ok (.lor, 1) := by decide +kernel
theorem dX9_followers_42 : decode cX9_followers 42 = .ok (.invokevirtual 265, 3) := by decide +kernel
theorem dX9_followers_45 : decode cX9_followers 45 = .ok (.lastore, 1) := by decide +kernel
theorem dX9_followers_46 : decode cX9_followers 46 = .ok (.iconst 0, 1) := by decide +kernel
theorem dX9_followers_47 : decode cX9_followers 47 = .ok (.istore_n 3, 1) := by decide +kernel
theorem dX9_followers_48 : decode cX9_followers 48 = .ok (.aload_n 0, 1) := by decide +kernel
theorem dX9_followers_49 : decode cX9_followers 49 = .ok (.getfield 51, 3) := by decide +kernel
theorem dX9_followers_52 : decode cX9_followers 52 = .ok (.iload_n 3, 1) := by decide +kernel
theorem dX9_followers_53 : decode cX9_followers 53 = .ok (.laload, 1) := by decide +kernel
theorem dX9_followers_54 : decode cX9_followers 54 = .ok (.aload_n 0, 1) := by decide +kernel
theorem dX9_followers_55 : decode cX9_followers 55 = .ok (.getfield 51, 3) := by decide +kernel
theorem dX9_followers_58 : decode cX9_followers 58 = .ok (.iload_n 1, 1) := by decide +kernel
theorem dX9_followers_59 : decode cX9_followers 59 = .ok (.laload, 1) := by decide +kernel
theorem dX9_followers_60 : decode cX9_followers 60 = .ok (.lcmp, 1) := by decide +kernel
theorem dX9_followers_61 : decode cX9_followers 61 = .ok (.ifCond .eq 9, 3) := by decide +kernel
theorem dX9_followers_64 : decode cX9_followers 64 = .ok (.iinc 3 1, 3) := by decide +kernel
theorem dX9_followers_67 : decode cX9_followers 67 = .ok (.goto (-19), 3) := by decide +kernel
theorem dX9_followers_70 : decode cX9_followers 70 = .ok (.iload_n 1, 1) := by decide +kernel
theorem dX9_followers_71 : decode cX9_followers 71 = .ok (.iload_n 3, 1) := by decide +kernel
theorem dX9_followers_72 : decode cX9_followers 72 = .ok (.iload_n 1, 1) := by decide +kernel
theorem dX9_followers_73 : decode cX9_followers 73 = .ok (.if_icmp .ne 7, 3) := by decide +kernel
theorem dX9_followers_76 : decode cX9_followers 76 = .ok (.iconst 1, 1) := by decide +kernel
theorem dX9_followers_77 : decode cX9_followers 77 = .ok (.goto 4, 3) := by decide +kernel
theorem dX9_followers_80 : decode cX9_followers 80 = .ok (.iconst 0, 1) := by decide +kernel
theorem dX9_followers_81 : decode cX9_followers 81 = .ok (.iadd, 1) := by decide +kernel
theorem dX9_followers_82 : decode cX9_followers 82 = .ok (.istore_n 1, 1) := by decide +kernel
theorem dX9_followers_83 : decode cX9_followers 83 = .ok (.iinc 2 1, 3) := by decide +kernel
theorem dX9_followers_86 : decode cX9_followers 86 = .ok (.goto (-77), 3) := by decide +kernel
theorem dX9_followers_89 : decode cX9_followers 89 = .ok (.iload_n 1, 1) := by decide +kernel
theorem dX9_followers_90 : decode cX9_followers 90 = .ok (.ireturn, 1) := by decide +kernel
set_option maxRecDepth 20000 in
theorem ggX9_greedy_X9_firstOf : GoodIn wsX9_greedy wsX9_firstOf := goodIn_r _ [5, 6, 7, 8, 4, 9, 10, 11, 12, 13, 14, 15, 16, 17, 18, 19, 20, 21, 22, 23, 24, 25, 26, 27, 28, 29, 30, 31, 32, 33, 34, 35, 36, 37, 38, 39, 40, 41, 42, 43, 44, 45, 46, 47, 48, 49, 50, 51, 52, 53, 54, 55, 56, 57, 58, 59, 60, 61, 70, 71, 72, 73, 74, 75, 76, 77, 78, 79, 80, 81, 82, 83, 84, 85, 86, 87, 88, 89, 90, 91, 92, 93, 94] (by decide +kernel) (by decide +kernel)
set_option maxRecDepth 20000 in
theorem gX9_greedy_X9_firstOf : GoodIn wsX9_greedy (wsV RX9 116 RX9 yX9_firstOf wsX9_firstOf) := goodIn_app (goodIn_of _ (by decide +kernel)) ggX9_greedy_X9_firstOf
set_option maxRecDepth 20000 in
theorem ggX9_greedy_X9_cheapest : GoodIn wsX9_greedy wsX9_cheapest := goodIn_r _ [65, 6, 7, 8, 4, 9, 10, 11, 12, 13, 14, 15, 20, 21, 22, 66, 67, 68, 69, 1, 2, 3, 5, 16, 17, 18, 19, 23, 24, 25, 26, 27, 28, 29, 30, 31, 32, 33, 34, 35, 36, 37, 38, 39, 40, 41, 42, 43, 44, 45, 46, 47, 48, 49, 50, 51, 52, 53, 54, 55, 56, 57, 58, 59, 60, 61, 70, 71, 72, 73, 74, 75, 76, 77, 78, 79, 80, 81, 82, 83, 84, 85, 86, 87, 88, 89, 90, 91, 92, 93, 94] (by decide +kernel) (by decide +kernel)
set_option maxRecDepth 20000 in
theorem gX9_greedy_X9_cheapest : GoodIn wsX9_greedy (wsV RX9 272 RX9 yX9_cheapest wsX9_cheapest) := goodIn_app (goodIn_of _ (by decide +kernel)) ggX9_greedy_X9_cheapest
theorem dX9_greedy_0 : decode cX9_greedy 0 = .ok (.aload_n 0, 1) := by decide +kernel
theorem dX9_greedy_1 : decode cX9_greedy 1 = .ok (.iconst 1, 1) := by decide +kernel
theorem dX9_greedy_2 : decode cX9_greedy 2 = .ok (.lload_n 1, 1) := by decide +kernel
theorem dX9_greedy_3 : decode cX9_greedy 3 = .ok (.invokevirtual 116, 3) := by decide +kernel
theorem dX9_greedy_6 : decode cX9_greedy 6 = .ok (.istore_n 3, 1) := by decide +kernel
theorem dX9_greedy_7 : decode cX9_greedy 7 = .ok (.iload_n 3, 1) := by decide +kernel
theorem dX9_greedy_8 : decode cX9_greedy 8 = .ok (.iconst (-1), 1) := by decide +kernel
theorem dX9_greedy_9 : decode cX9_greedy 9 = .ok (.if_icmp .ne 12, 3) := by decide +kernel
theorem dX9_greedy_12 : decode cX9_greedy 12 = .ok (.aload_n 0, 1) := by decide +kernel
theorem dX9_greedy_13 : decode cX9_greedy 13 = .ok (.iconst 2, 1) := by decide +kernel
theorem dX9_greedy_14 : decode cX9_greedy 14 = .ok (.lload_n 1, 1) := by decide +kernel
theorem dX9_greedy_15 : decode cX9_greedy 15 = .ok (.invokevirtual 116, 3) := by decide +kernel
theorem dX9_greedy_18 : decode cX9_greedy 18 = .ok (.goto 4, 3) := by decide +kernel
theorem dX9_greedy_21 : decode cX9_greedy 21 = .ok (.iload_n 3, 1) := by decide +kernel
theorem dX9_greedy_22 : decode cX9_greedy 22 = .ok (.istore_n 3, 1) := by decide +kernel
theorem dX9_greedy_23 : decode cX9_greedy 23 = .ok (.iload_n 3, 1) := by decide +kernel
theorem dX9_greedy_24 : decode cX9_greedy 24 = .ok (.iconst (-1), 1) := by decide +kernel
theorem dX9_greedy_25 : decode cX9_greedy 25 = .ok (.if_icmp .ne 11, 3) := by decide +kernel
theorem dX9_greedy_28 : decode cX9_greedy 28 = .ok (.aload_n 0, 1) := by decide +kernel
theorem dX9_greedy_29 : decode cX9_greedy 29 = .ok (.lload_n 1, 1) := by decide +kernel
theorem dX9_greedy_30 : decode cX9_greedy 30 = .ok (.invokevirtual 272, 3) := by decide +kernel
theorem dX9_greedy_33 : decode cX9_greedy 33 = .ok (.goto 4, 3) := by decide +kernel
theorem dX9_greedy_36 : decode cX9_greedy 36 = .ok (.iload_n 3, 1) := by decide +kernel
theorem dX9_greedy_37 : decode cX9_greedy 37 = .ok (.ireturn, 1) := by decide +kernel
set_option maxRecDepth 20000 in
theorem ggX9_cheapest_X9_all : GoodIn wsX9_cheapest wsX9_all := goodIn_r _ [5, 6, 7, 8, 9, 10, 4, 11, 66, 67, 68, 69, 70, 71, 72, 73, 74, 75, 76, 77, 78, 79, 80, 81, 82, 83, 84, 85, 86, 87, 88, 89, 90] (by decide +kernel) (by decide +kernel)
set_option maxRecDepth 20000 in
theorem gX9_cheapest_X9_all : GoodIn wsX9_cheapest (wsV RX9 70 RX9 yX9_all wsX9_all) := goodIn_app (goodIn_of _ (by decide +kernel)) ggX9_cheapest_X9_all
set_option maxRecDepth 20000 in
theorem ggX9_cheapest_X9_has : GoodIn wsX9_cheapest wsX9_has := goodIn_r _ [14] (by decide +kernel) (by decide +kernel)
set_option maxRecDepth 20000 in
theorem gX9_cheapest_X9_has : GoodIn wsX9_cheapest (va_wsS RX9 62 yX9_has wsX9_has) := goodIn_app (goodIn_of _ (by decide +kernel)) ggX9_cheapest_X9_has
set_option maxRecDepth 20000 in
theorem ggX9_cheapest_X9_runOf : GoodIn wsX9_cheapest wsX9_runOf := goodIn_r _ [18, 19, 20, 21, 4, 22, 1, 2, 3, 5, 6, 7, 8, 9, 10, 11, 23, 24, 25, 26, 12, 13, 14, 27, 28, 29, 30, 31, 32, 33, 34, 35, 36, 37, 38, 39, 40, 41, 42, 43, 44, 45, 46, 47, 48, 49, 50, 51, 52, 53, 54, 55, 56, 57, 58, 59, 60, 61, 62, 63, 64, 65, 66, 67, 68, 69, 70, 71, 72, 73, 74, 75, 76, 77, 78, 79, 80, 81, 82, 83, 84, 85, 86, 87, 88, 89, 90] (by decide +kernel) (by decide +kernel)
set_option maxRecDepth 20000 in
theorem gX9_cheapest_X9_runOf : GoodIn wsX9_cheapest (wsV RX9 173 RX9 yX9_runOf wsX9_runOf) := goodIn_app (goodIn_of _ (by decide +kernel)) ggX9_cheapest_X9_runOf
theorem dX9_cheapest_0 : decode cX9_cheapest 0 = .ok (.iconst (-1), 1) := by decide +kernel
theorem dX9_cheapest_1 : decode cX9_cheapest 1 = .ok (.istore_n 3, 1) := by decide +kernel
theorem dX9_cheapest_2 : decode cX9_cheapest 2 = .ok (.iconst 0, 1) := by decide +kernel
theorem dX9_cheapest_3 : decode cX9_cheapest 3 = .ok (.istore 4, 2) := by decide +kernel
theorem dX9_cheapest_5 : decode cX9_cheapest 5 = .ok (.iconst 0, 1) := by decide +kernel
theorem dX9_cheapest_6 : decode cX9_cheapest 6 = .ok (.istore 5, 2) := by decide +kernel
theorem dX9_cheapest_8 : decode cX9_cheapest 8 = .ok (.iload 5, 2) := by decide +kernel
theorem dX9_cheapest_10 : decode cX9_cheapest 10 = .ok (.aload_n 0, 1) := by decide +kernel
theorem dX9_cheapest_11 : decode cX9_cheapest 11 = .ok (.invokevirtual 70, 3) := by decide +kernel
theorem dX9_cheapest_14 : decode cX9_cheapest 14 = .ok (.if_icmp .ge 88, 3) := by decide +kernel
theorem dX9_cheapest_17 : decode cX9_cheapest 17 = .ok (.lload_n 1, 1) := by decide +kernel
theorem dX9_cheapest_18 : decode cX9_cheapest 18 = .ok (.iload 5, 2) := by decide +kernel
theorem dX9_cheapest_20 : decode cX9_cheapest 20 = .ok (.invokestatic 62, 3) := by decide +kernel
theorem dX9_cheapest_23 : decode cX9_cheapest 23 = .ok (.ifCond .eq 7, 3) := by decide +kernel
theorem dX9_cheapest_26 : decode cX9_cheapest 26 = .ok (.iconst 0, 1) := by decide +kernel
theorem dX9_cheapest_27 : decode cX9_cheapest 27 = .ok (.goto 13, 3) := by decide +kernel
theorem dX9_cheapest_30 : decode cX9_cheapest 30 = .ok (.aload_n 0, 1) := by decide +kernel
theorem dX9_cheapest_31 : decode cX9_cheapest 31 = .ok (.lload_n 1, 1) := by decide +kernel
theorem dX9_cheapest_32 : decode cX9_cheapest 32 = .ok (.lconst 1, 1) := by decide +kernel
theorem dX9_cheapest_33 : decode cX9_cheapest 33 = .ok (.iload 5, 2) := by decide +kernel
theorem dX9_cheapest_35 : decode cX9_cheapest 35 = .ok (.lshl, 1) := by decide +kernel
theorem dX9_cheapest_36 : decode cX9_cheapest 36 = .ok (.lor, 1) := by decide +kernel
theorem dX9_cheapest_37 : decode cX9_cheapest 37 = .ok (.invokevirtual 173, 3) := by decide +kernel
theorem dX9_cheapest_40 : decode cX9_cheapest 40 = .ok (.istore 6, 2) := by decide +kernel
theorem dX9_cheapest_42 : decode cX9_cheapest 42 = .ok (.lload_n 1, 1) := by decide +kernel
theorem dX9_cheapest_43 : decode cX9_cheapest 43 = .ok (.iload 5, 2) := by decide +kernel
theorem dX9_cheapest_45 : decode cX9_cheapest 45 = .ok (.invokestatic 62, 3) := by decide +kernel
theorem dX9_cheapest_48 : decode cX9_cheapest 48 = .ok (.ifCond .ne 19, 3) := by decide +kernel
theorem dX9_cheapest_51 : decode cX9_cheapest 51 = .ok (.iload_n 3, 1) := by decide +kernel
theorem dX9_cheapest_52 : decode cX9_cheapest 52 = .ok (.iconst (-1), 1) := by decide +kernel
theorem dX9_cheapest_53 : decode cX9_cheapest 53 = .ok (.if_icmp .eq 10, 3) := by decide +kernel
theorem dX9_cheapest_56 : decode cX9_cheapest 56 = .ok (.iload 6, 2) := by decide +kernel
theorem dX9_cheapest_58 : decode cX9_cheapest 58 = .ok (.iload 4, 2) := by decide +kernel
theorem dX9_cheapest_60 : decode cX9_cheapest 60 = .ok (.if_icmp .ge 7, 3) := by decide +kernel
theorem dX9_cheapest_63 : decode cX9_cheapest 63 = .ok (.iconst 1, 1) := by decide +kernel
theorem dX9_cheapest_64 : decode cX9_cheapest 64 = .ok (.goto 4, 3) := by decide +kernel
theorem dX9_cheapest_67 : decode cX9_cheapest 67 = .ok (.iconst 0, 1) := by decide +kernel
theorem dX9_cheapest_68 : decode cX9_cheapest 68 = .ok (.istore 7, 2) := by decide +kernel
theorem dX9_cheapest_70 : decode cX9_cheapest 70 = .ok (.iload 7, 2) := by decide +kernel
theorem dX9_cheapest_72 : decode cX9_cheapest 72 = .ok (.ifCond .eq 8, 3) := by decide +kernel
theorem dX9_cheapest_75 : decode cX9_cheapest 75 = .ok (.iload 5, 2) := by decide +kernel
theorem dX9_cheapest_77 : decode cX9_cheapest 77 = .ok (.goto 4, 3) := by decide +kernel
theorem dX9_cheapest_80 : decode cX9_cheapest 80 = .ok (.iload_n 3, 1) := by decide +kernel
theorem dX9_cheapest_81 : decode cX9_cheapest 81 = .ok (.istore_n 3, 1) := by decide +kernel
theorem dX9_cheapest_82 : decode cX9_cheapest 82 = .ok (.iload 7, 2) := by decide +kernel
theorem dX9_cheapest_84 : decode cX9_cheapest 84 = .ok (.ifCond .eq 8, 3) := by decide +kernel
theorem dX9_cheapest_87 : decode cX9_cheapest 87 = .ok (.iload 6, 2) := by decide +kernel
theorem dX9_cheapest_89 : decode cX9_cheapest 89 = .ok (.goto 5, 3) := by decide +kernel
theorem dX9_cheapest_92 : decode cX9_cheapest 92 = .ok (.iload 4, 2) := by decide +kernel
theorem dX9_cheapest_94 : decode cX9_cheapest 94 = .ok (.istore 4, 2) := by decide +kernel
theorem dX9_cheapest_96 : decode cX9_cheapest 96 = .ok (.iinc 5 1, 3) := by decide +kernel
theorem dX9_cheapest_99 : decode cX9_cheapest 99 = .ok (.goto (-91), 3) := by decide +kernel
theorem dX9_cheapest_102 : decode cX9_cheapest 102 = .ok (.iload_n 3, 1) := by decide +kernel
theorem dX9_cheapest_103 : decode cX9_cheapest 103 = .ok (.ireturn, 1) := by decide +kernel
set_option maxRecDepth 20000 in
theorem ggX9_canTakeTwo_X9_all : GoodIn wsX9_canTakeTwo wsX9_all := goodIn_r _ [5, 6, 7, 8, 9, 10, 4, 11, 50, 51, 52, 53, 54, 55, 56, 57, 58, 59, 60, 61, 62, 63, 64, 65, 66, 67, 68, 69, 70, 71, 72, 73, 74] (by decide +kernel) (by decide +kernel)
set_option maxRecDepth 20000 in
theorem gX9_canTakeTwo_X9_all : GoodIn wsX9_canTakeTwo (wsV RX9 70 RX9 yX9_all wsX9_all) := goodIn_app (goodIn_of _ (by decide +kernel)) ggX9_canTakeTwo_X9_all
set_option maxRecDepth 20000 in
theorem ggX9_canTakeTwo_X9_has : GoodIn wsX9_canTakeTwo wsX9_has := goodIn_r _ [14] (by decide +kernel) (by decide +kernel)
set_option maxRecDepth 20000 in
theorem gX9_canTakeTwo_X9_has : GoodIn wsX9_canTakeTwo (va_wsS RX9 62 yX9_has wsX9_has) := goodIn_app (goodIn_of _ (by decide +kernel)) ggX9_canTakeTwo_X9_has
set_option maxRecDepth 20000 in
theorem ggX9_canTakeTwo_X9_gains : GoodIn wsX9_canTakeTwo wsX9_gains := goodIn_r _ [18, 19, 20, 21, 4, 22, 7, 6, 23, 24, 25, 26, 27, 28, 29, 30, 8, 9, 10, 11, 31, 32, 33, 34, 35, 36, 37, 38, 39, 40, 41, 42, 43, 44, 45, 46, 47, 48, 49, 12, 13, 14, 50, 51, 52, 53, 54, 55, 56, 57, 58, 59, 60, 61, 62, 63, 64, 65, 66, 67, 68, 69, 70, 71, 72, 73, 74] (by decide +kernel) (by decide +kernel)
set_option maxRecDepth 20000 in
theorem gX9_canTakeTwo_X9_gains : GoodIn wsX9_canTakeTwo (wsV RX9 106 RX9 yX9_gains wsX9_gains) := goodIn_app (goodIn_of _ (by decide +kernel)) ggX9_canTakeTwo_X9_gains
theorem dX9_canTakeTwo_0 : decode cX9_canTakeTwo 0 = .ok (.iconst 0, 1) := by decide +kernel
theorem dX9_canTakeTwo_1 : decode cX9_canTakeTwo 1 = .ok (.istore_n 3, 1) := by decide +kernel
theorem dX9_canTakeTwo_2 : decode cX9_canTakeTwo 2 = .ok (.iconst 0, 1) := by decide +kernel
theorem dX9_canTakeTwo_3 : decode cX9_canTakeTwo 3 = .ok (.istore 4, 2) := by decide +kernel
theorem dX9_canTakeTwo_5 : decode cX9_canTakeTwo 5 = .ok (.iload 4, 2) := by decide +kernel
theorem dX9_canTakeTwo_7 : decode cX9_canTakeTwo 7 = .ok (.aload_n 0, 1) := by decide +kernel
theorem dX9_canTakeTwo_8 : decode cX9_canTakeTwo 8 = .ok (.invokevirtual 70, 3) := by decide +kernel
theorem dX9_canTakeTwo_11 : decode cX9_canTakeTwo 11 = .ok (.if_icmp .ge 39, 3) := by decide +kernel
theorem dX9_canTakeTwo_14 : decode cX9_canTakeTwo 14 = .ok (.iload_n 3, 1) := by decide +kernel
theorem dX9_canTakeTwo_15 : decode cX9_canTakeTwo 15 = .ok (.ifCond .ne 23, 3) := by decide +kernel
theorem dX9_canTakeTwo_18 : decode cX9_canTakeTwo 18 = .ok (.lload_n 1, 1) := by decide +kernel
theorem dX9_canTakeTwo_19 : decode cX9_canTakeTwo 19 = .ok (.iload 4, 2) := by decide +kernel
theorem dX9_canTakeTwo_21 : decode cX9_canTakeTwo 21 = .ok (.invokestatic 62, 3) := by decide +kernel
theorem dX9_canTakeTwo_24 : decode cX9_canTakeTwo 24 = .ok (.ifCond .ne 18, 3) := by decide +kernel
theorem dX9_canTakeTwo_27 : decode cX9_canTakeTwo 27 = .ok (.aload_n 0, 1) := by decide +kernel
theorem dX9_canTakeTwo_28 : decode cX9_canTakeTwo 28 = .ok (.iload 4, 2) := by decide +kernel
theorem dX9_canTakeTwo_30 : decode cX9_canTakeTwo 30 = .ok (.lload_n 1, 1) := by decide +kernel
theorem dX9_canTakeTwo_31 : decode cX9_canTakeTwo 31 = .ok (.invokevirtual 106, 3) := by decide +kernel
theorem dX9_canTakeTwo_34 : decode cX9_canTakeTwo 34 = .ok (.iconst 2, 1) := by decide +kernel
theorem dX9_canTakeTwo_35 : decode cX9_canTakeTwo 35 = .ok (.if_icmp .ne 7, 3) := by decide +kernel
theorem dX9_canTakeTwo_38 : decode cX9_canTakeTwo 38 = .ok (.iconst 1, 1) := by decide +kernel
theorem dX9_canTakeTwo_39 : decode cX9_canTakeTwo 39 = .ok (.goto 4, 3) := by decide +kernel
theorem dX9_canTakeTwo_42 : decode cX9_canTakeTwo 42 = .ok (.iconst 0, 1) := by decide +kernel
theorem dX9_canTakeTwo_43 : decode cX9_canTakeTwo 43 = .ok (.istore_n 3, 1) := by decide +kernel
theorem dX9_canTakeTwo_44 : decode cX9_canTakeTwo 44 = .ok (.iinc 4 1, 3) := by decide +kernel
theorem dX9_canTakeTwo_47 : decode cX9_canTakeTwo 47 = .ok (.goto (-42), 3) := by decide +kernel
theorem dX9_canTakeTwo_50 : decode cX9_canTakeTwo 50 = .ok (.iload_n 3, 1) := by decide +kernel
theorem dX9_canTakeTwo_51 : decode cX9_canTakeTwo 51 = .ok (.ireturn, 1) := by decide +kernel
set_option maxRecDepth 20000 in
theorem ggX9_keeping_X9_howMany : GoodIn wsX9_keeping wsX9_howMany := goodIn_r _ [5, 6, 7, 8, 4, 9, 10, 11, 12, 13, 14, 15, 16, 17, 18, 19, 20, 21, 22, 23, 24, 25, 26, 27, 28, 29, 30, 31, 32, 33, 34, 35, 36, 37, 38, 39, 40, 41, 42, 43, 44, 45, 46, 47, 48, 49, 50, 51, 52, 53, 54, 55, 56, 57, 58, 59, 60, 61, 90, 91, 92, 93, 94, 95, 96, 97, 98, 99, 100, 101, 102, 103, 104, 105, 106, 107, 108, 109, 110, 111, 112, 113, 114] (by decide +kernel) (by decide +kernel)
set_option maxRecDepth 20000 in
theorem gX9_keeping_X9_howMany : GoodIn wsX9_keeping (wsV RX9 170 RX9 yX9_howMany wsX9_howMany) := goodIn_app (goodIn_of _ (by decide +kernel)) ggX9_keeping_X9_howMany
set_option maxRecDepth 20000 in
theorem ggX9_keeping_X9_runOf : GoodIn wsX9_keeping wsX9_runOf := goodIn_r _ [65, 66, 67, 68, 4, 69, 6, 7, 8, 9, 10, 11, 12, 13, 14, 15, 16, 17, 18, 19, 20, 21, 22, 23, 24, 25, 26, 27, 28, 29, 30, 31, 32, 33, 34, 35, 36, 37, 38, 39, 40, 41, 42, 43, 44, 45, 46, 47, 48, 49, 50, 51, 52, 53, 54, 55, 56, 57, 58, 59, 60, 61, 90, 91, 92, 93, 94, 95, 96, 97, 98, 99, 100, 101, 102, 103, 104, 105, 106, 107, 108, 109, 110, 111, 112, 113, 114] (by decide +kernel) (by decide +kernel)
set_option maxRecDepth 20000 in
theorem gX9_keeping_X9_runOf : GoodIn wsX9_keeping (wsV RX9 173 RX9 yX9_runOf wsX9_runOf) := goodIn_app (goodIn_of _ (by decide +kernel)) ggX9_keeping_X9_runOf
set_option maxRecDepth 20000 in
theorem ggX9_keeping_X9_boxes : GoodIn wsX9_keeping wsX9_boxes := goodIn_r _ [73, 11, 10, 90, 91, 92, 93, 94, 95, 96, 97, 98, 99, 100, 101, 102, 103, 104, 105, 106, 107, 108, 109, 110, 111, 112, 113, 114] (by decide +kernel) (by decide +kernel)
set_option maxRecDepth 20000 in
theorem gX9_keeping_X9_boxes : GoodIn wsX9_keeping (wsV RX9 77 RX9 yX9_boxes wsX9_boxes) := goodIn_app (goodIn_of _ (by decide +kernel)) ggX9_keeping_X9_boxes
set_option maxRecDepth 20000 in
theorem ggX9_keeping_X9_complete : GoodIn wsX9_keeping wsX9_complete := goodIn_r _ [77, 70, 71, 72, 4, 73, 11, 10, 46, 47, 48, 49, 50, 51, 52, 53, 54, 55, 56, 57, 12, 13, 14, 15, 20, 21, 22, 90, 91, 92, 93, 94, 95, 96, 97, 98, 99, 100, 101, 102, 103, 104, 105, 106, 107, 108, 109, 110, 111, 112, 113, 114] (by decide +kernel) (by decide +kernel)
set_option maxRecDepth 20000 in
theorem gX9_keeping_X9_complete : GoodIn wsX9_keeping (wsV RX9 167 RX9 yX9_complete wsX9_complete) := goodIn_app (goodIn_of _ (by decide +kernel)) ggX9_keeping_X9_complete
set_option maxRecDepth 20000 in
theorem ggX9_keeping_X9_all : GoodIn wsX9_keeping wsX9_all := goodIn_r _ [9, 10, 11, 12, 13, 14, 4, 15, 90, 91, 92, 93, 94, 95, 96, 97, 98, 99, 100, 101, 102, 103, 104, 105, 106, 107, 108, 109, 110, 111, 112, 113, 114] (by decide +kernel) (by decide +kernel)
set_option maxRecDepth 20000 in
theorem gX9_keeping_X9_all : GoodIn wsX9_keeping (wsV RX9 70 RX9 yX9_all wsX9_all) := goodIn_app (goodIn_of _ (by decide +kernel)) ggX9_keeping_X9_all
set_option maxRecDepth 20000 in
theorem ggX9_keeping_X9_kindIn : GoodIn wsX9_keeping wsX9_kindIn := goodIn_r _ [19, 20, 21, 4, 22, 23, 24, 25, 26, 27, 28, 29, 30, 11, 10, 31, 32, 33, 34, 35, 36, 37, 38, 12, 13, 14, 15, 39, 40, 41, 42, 43, 44, 45, 46, 47, 48, 49, 50, 51, 52, 53, 54, 55, 56, 57, 58, 59, 60, 61, 90, 91, 92, 93, 94, 95, 96, 97, 98, 99, 100, 101, 102, 103, 104, 105, 106, 107, 108, 109, 110, 111, 112, 113, 114] (by decide +kernel) (by decide +kernel)
set_option maxRecDepth 20000 in
theorem gX9_keeping_X9_kindIn : GoodIn wsX9_keeping (wsV RX9 113 RX9 yX9_kindIn wsX9_kindIn) := goodIn_app (goodIn_of _ (by decide +kernel)) ggX9_keeping_X9_kindIn
set_option maxRecDepth 20000 in
theorem ggX9_keeping_X9_canTakeTwo : GoodIn wsX9_keeping wsX9_canTakeTwo := goodIn_r _ [81, 6, 7, 8, 4, 9, 10, 11, 12, 13, 14, 15, 20, 21, 22, 23, 24, 25, 26, 27, 28, 29, 30, 31, 32, 33, 34, 35, 36, 37, 38, 39, 40, 41, 42, 43, 44, 45, 46, 47, 48, 49, 50, 51, 52, 53, 54, 55, 56, 57, 90, 91, 92, 93, 94, 95, 96, 97, 98, 99, 100, 101, 102, 103, 104, 105, 106, 107, 108, 109, 110, 111, 112, 113, 114] (by decide +kernel) (by decide +kernel)
set_option maxRecDepth 20000 in
theorem gX9_keeping_X9_canTakeTwo : GoodIn wsX9_keeping (wsV RX9 275 RX9 yX9_canTakeTwo wsX9_canTakeTwo) := goodIn_app (goodIn_of _ (by decide +kernel)) ggX9_keeping_X9_canTakeTwo
set_option maxRecDepth 20000 in
theorem ggX9_keeping_X9_greedy : GoodIn wsX9_keeping wsX9_greedy := goodIn_r _ [85, 66, 67, 68, 4, 69, 6, 7, 8, 9, 10, 11, 12, 13, 14, 15, 16, 17, 18, 19, 20, 21, 22, 23, 24, 25, 26, 27, 28, 29, 30, 31, 32, 33, 34, 35, 36, 37, 38, 39, 40, 41, 42, 43, 44, 45, 46, 47, 48, 49, 50, 51, 52, 53, 54, 55, 56, 57, 58, 59, 60, 61, 86, 87, 88, 89, 62, 63, 64, 65, 90, 91, 92, 93, 94, 95, 96, 97, 98, 99, 100, 101, 102, 103, 104, 105, 106, 107, 108, 109, 110, 111, 112, 113, 114] (by decide +kernel) (by decide +kernel)
set_option maxRecDepth 20000 in
theorem gX9_keeping_X9_greedy : GoodIn wsX9_keeping (wsV RX9 279 RX9 yX9_greedy wsX9_greedy) := goodIn_app (goodIn_of _ (by decide +kernel)) ggX9_keeping_X9_greedy
theorem dX9_keeping_0 : decode cX9_keeping 0 = .ok (.aload_n 0, 1) := by decide +kernel
theorem dX9_keeping_1 : decode cX9_keeping 1 = .ok (.iconst 1, 1) := by decide +kernel
theorem dX9_keeping_2 : decode cX9_keeping 2 = .ok (.lload_n 1, 1) := by decide +kernel
theorem dX9_keeping_3 : decode cX9_keeping 3 = .ok (.invokevirtual 170, 3) := by decide +kernel
theorem dX9_keeping_6 : decode cX9_keeping 6 = .ok (.ifCond .le 39, 3) := by decide +kernel
theorem dX9_keeping_9 : decode cX9_keeping 9 = .ok (.aload_n 0, 1) := by decide +kernel
theorem dX9_keeping_10 : decode cX9_keeping 10 = .ok (.iconst 2, 1) := by decide +kernel
theorem dX9_keeping_11 : decode cX9_keeping 11 = .ok (.lload_n 1, 1) := by decide +kernel
theorem dX9_keeping_12 : decode cX9_keeping 12 = .ok (.invokevirtual 170, 3) := by decide +kernel
theorem dX9_keeping_15 : decode cX9_keeping 15 = .ok (.ifCond .ne 30, 3) := by decide +kernel
theorem dX9_keeping_18 : decode cX9_keeping 18 = .ok (.aload_n 0, 1) := by decide +kernel
theorem dX9_keeping_19 : decode cX9_keeping 19 = .ok (.lload_n 1, 1) := by decide +kernel
theorem dX9_keeping_20 : decode cX9_keeping 20 = .ok (.invokevirtual 173, 3) := by decide +kernel
theorem dX9_keeping_23 : decode cX9_keeping 23 = .ok (.iconst 2, 1) := by decide +kernel
theorem dX9_keeping_24 : decode cX9_keeping 24 = .ok (.if_icmp .ne 21, 3) := by decide +kernel
theorem dX9_keeping_27 : decode cX9_keeping 27 = .ok (.aload_n 0, 1) := by decide +kernel
theorem dX9_keeping_28 : decode cX9_keeping 28 = .ok (.invokevirtual 77, 3) := by decide +kernel
theorem dX9_keeping_31 : decode cX9_keeping 31 = .ok (.aload_n 0, 1) := by decide +kernel
theorem dX9_keeping_32 : decode cX9_keeping 32 = .ok (.lload_n 1, 1) := by decide +kernel
theorem dX9_keeping_33 : decode cX9_keeping 33 = .ok (.invokevirtual 167, 3) := by decide +kernel
theorem dX9_keeping_36 : decode cX9_keeping 36 = .ok (.isub, 1) := by decide +kernel
theorem dX9_keeping_37 : decode cX9_keeping 37 = .ok (.iconst 5, 1) := by decide +kernel
theorem dX9_keeping_38 : decode cX9_keeping 38 = .ok (.if_icmp .lt 7, 3) := by decide +kernel
theorem dX9_keeping_41 : decode cX9_keeping 41 = .ok (.iconst 1, 1) := by decide +kernel
theorem dX9_keeping_42 : decode cX9_keeping 42 = .ok (.goto 4, 3) := by decide +kernel
theorem dX9_keeping_45 : decode cX9_keeping 45 = .ok (.iconst 0, 1) := by decide +kernel
theorem dX9_keeping_46 : decode cX9_keeping 46 = .ok (.istore_n 3, 1) := by decide +kernel
theorem dX9_keeping_47 : decode cX9_keeping 47 = .ok (.iconst 0, 1) := by decide +kernel
theorem dX9_keeping_48 : decode cX9_keeping 48 = .ok (.istore 4, 2) := by decide +kernel
theorem dX9_keeping_50 : decode cX9_keeping 50 = .ok (.iload 4, 2) := by decide +kernel
theorem dX9_keeping_52 : decode cX9_keeping 52 = .ok (.aload_n 0, 1) := by decide +kernel
theorem dX9_keeping_53 : decode cX9_keeping 53 = .ok (.invokevirtual 70, 3) := by decide +kernel
theorem dX9_keeping_56 : decode cX9_keeping 56 = .ok (.if_icmp .ge 40, 3) := by decide +kernel
theorem dX9_keeping_59 : decode cX9_keeping 59 = .ok (.iload_n 3, 1) := by decide +kernel
theorem dX9_keeping_60 : decode cX9_keeping 60 = .ok (.ifCond .eq 36, 3) := by decide +kernel
theorem dX9_keeping_63 : decode cX9_keeping 63 = .ok (.aload_n 0, 1) := by decide +kernel
theorem dX9_keeping_64 : decode cX9_keeping 64 = .ok (.iload 4, 2) := by decide +kernel
theorem dX9_keeping_66 : decode cX9_keeping 66 = .ok (.lload_n 1, 1) := by decide +kernel
theorem dX9_keeping_67 : decode cX9_keeping 67 = .ok (.invokevirtual 113, 3) := by decide +kernel
theorem dX9_keeping_70 : decode cX9_keeping 70 = .ok (.iconst 1, 1) := by decide +kernel
theorem dX9_keeping_71 : decode cX9_keeping 71 = .ok (.if_icmp .le 19, 3) := by decide +kernel
theorem dX9_keeping_74 : decode cX9_keeping 74 = .ok (.aload_n 0, 1) := by decide +kernel
theorem dX9_keeping_75 : decode cX9_keeping 75 = .ok (.lload_n 1, 1) := by decide +kernel
theorem dX9_keeping_76 : decode cX9_keeping 76 = .ok (.lconst 1, 1) := by decide +kernel
theorem dX9_keeping_77 : decode cX9_keeping 77 = .ok (.iload 4, 2) := by decide +kernel
theorem dX9_keeping_79 : decode cX9_keeping 79 = .ok (.lshl, 1) := by decide +kernel
theorem dX9_keeping_80 : decode cX9_keeping 80 = .ok (.lor, 1) := by decide +kernel
theorem dX9_keeping_81 : decode cX9_keeping 81 = .ok (.invokevirtual 275, 3) := by decide +kernel
theorem dX9_keeping_84 : decode cX9_keeping 84 = .ok (.ifCond .eq 6, 3) := by decide +kernel
theorem dX9_keeping_87 : decode cX9_keeping 87 = .ok (.iload 4, 2) := by decide +kernel
theorem dX9_keeping_89 : decode cX9_keeping 89 = .ok (.ireturn, 1) := by decide +kernel
theorem dX9_keeping_90 : decode cX9_keeping 90 = .ok (.iinc 4 1, 3) := by decide +kernel
theorem dX9_keeping_93 : decode cX9_keeping 93 = .ok (.goto (-43), 3) := by decide +kernel
theorem dX9_keeping_96 : decode cX9_keeping 96 = .ok (.aload_n 0, 1) := by decide +kernel
theorem dX9_keeping_97 : decode cX9_keeping 97 = .ok (.lload_n 1, 1) := by decide +kernel
theorem dX9_keeping_98 : decode cX9_keeping 98 = .ok (.invokevirtual 279, 3) := by decide +kernel
theorem dX9_keeping_101 : decode cX9_keeping 101 = .ok (.ireturn, 1) := by decide +kernel
set_option maxRecDepth 20000 in
theorem ggX9_exactly_X9_layResults : GoodIn wsX9_exactly wsX9_layResults := goodIn_r _ [7, 8, 1, 9, 10, 11, 6, 12, 2, 13, 14, 15, 16, 17, 18, 19, 20, 21, 22, 23, 24, 25, 26, 27, 28, 29, 30, 31, 32, 33, 34, 35, 36, 37, 38, 39, 40, 41, 42, 43, 44, 45, 46, 47, 48, 49, 50, 51, 52, 53, 54, 55, 56, 57, 58, 59, 60, 61, 62, 63, 64, 65, 66, 67, 68, 69, 70, 71, 72, 73, 74, 75, 76, 77, 78, 79, 80, 81, 82, 83, 84, 85, 86, 87, 88, 89, 90, 91, 92, 93] (by decide +kernel) (by decide +kernel)
set_option maxRecDepth 20000 in
theorem gX9_exactly_X9_layResults : GoodIn wsX9_exactly (wsV RX9 241 RX9 yX9_layResults wsX9_layResults) := goodIn_app (goodIn_of _ (by decide +kernel)) ggX9_exactly_X9_layResults
set_option maxRecDepth 20000 in
theorem ggX9_exactly_X9_resultOf : GoodIn wsX9_exactly wsX9_resultOf := goodIn_r _ [33, 2, 8, 34, 35, 36, 6, 37, 38, 39, 40, 41, 18, 17, 42, 43, 44, 45, 46, 47, 48, 49, 19, 20, 21, 22, 50, 51, 52, 53, 54, 55, 56, 57, 58, 59, 60, 61, 62, 63, 64, 65, 66, 67, 68, 23, 24, 25, 69, 70, 71, 72, 73, 74, 75, 76, 77, 78, 79, 80, 81, 82, 83, 84, 85, 86, 87, 88, 89, 90, 91, 92, 93] (by decide +kernel) (by decide +kernel)
set_option maxRecDepth 20000 in
theorem gX9_exactly_X9_resultOf : GoodIn wsX9_exactly (wsV RX9 237 RX9 yX9_resultOf wsX9_resultOf) := goodIn_app (goodIn_of _ (by decide +kernel)) ggX9_exactly_X9_resultOf
theorem dX9_exactly_0 : decode cX9_exactly 0 = .ok (.aload_n 0, 1) := by decide +kernel
theorem dX9_exactly_1 : decode cX9_exactly 1 = .ok (.lload_n 1, 1) := by decide +kernel
theorem dX9_exactly_2 : decode cX9_exactly 2 = .ok (.invokevirtual 241, 3) := by decide +kernel
theorem dX9_exactly_5 : decode cX9_exactly 5 = .ok (.iconst (-1), 1) := by decide +kernel
theorem dX9_exactly_6 : decode cX9_exactly 6 = .ok (.istore_n 3, 1) := by decide +kernel
theorem dX9_exactly_7 : decode cX9_exactly 7 = .ok (.iconst 0, 1) := by decide +kernel
theorem dX9_exactly_8 : decode cX9_exactly 8 = .ok (.istore 4, 2) := by decide +kernel
theorem dX9_exactly_10 : decode cX9_exactly 10 = .ok (.iconst 0, 1) := by decide +kernel
theorem dX9_exactly_11 : decode cX9_exactly 11 = .ok (.istore 5, 2) := by decide +kernel
theorem dX9_exactly_13 : decode cX9_exactly 13 = .ok (.iload 5, 2) := by decide +kernel
theorem dX9_exactly_15 : decode cX9_exactly 15 = .ok (.aload_n 0, 1) := by decide +kernel
theorem dX9_exactly_16 : decode cX9_exactly 16 = .ok (.getfield 226, 3) := by decide +kernel
theorem dX9_exactly_19 : decode cX9_exactly 19 = .ok (.if_icmp .ge 76, 3) := by decide +kernel
theorem dX9_exactly_22 : decode cX9_exactly 22 = .ok (.aload_n 0, 1) := by decide +kernel
theorem dX9_exactly_23 : decode cX9_exactly 23 = .ok (.lload_n 1, 1) := by decide +kernel
theorem dX9_exactly_24 : decode cX9_exactly 24 = .ok (.iconst 1, 1) := by decide +kernel
theorem dX9_exactly_25 : decode cX9_exactly 25 = .ok (.aload_n 0, 1) := by decide +kernel
theorem dX9_exactly_26 : decode cX9_exactly 26 = .ok (.getfield 226, 3) := by decide +kernel
theorem dX9_exactly_29 : decode cX9_exactly 29 = .ok (.ishl, 1) := by decide +kernel
theorem dX9_exactly_30 : decode cX9_exactly 30 = .ok (.iconst 1, 1) := by decide +kernel
theorem dX9_exactly_31 : decode cX9_exactly 31 = .ok (.isub, 1) := by decide +kernel
theorem dX9_exactly_32 : decode cX9_exactly 32 = .ok (.iload 5, 2) := by decide +kernel
theorem dX9_exactly_34 : decode cX9_exactly 34 = .ok (.invokevirtual 237, 3) := by decide +kernel
theorem dX9_exactly_37 : decode cX9_exactly 37 = .ok (.istore 6, 2) := by decide +kernel
theorem dX9_exactly_39 : decode cX9_exactly 39 = .ok (.iload_n 3, 1) := by decide +kernel
theorem dX9_exactly_40 : decode cX9_exactly 40 = .ok (.iconst (-1), 1) := by decide +kernel
theorem dX9_exactly_41 : decode cX9_exactly 41 = .ok (.if_icmp .eq 10, 3) := by decide +kernel
theorem dX9_exactly_44 : decode cX9_exactly 44 = .ok (.iload 6, 2) := by decide +kernel
theorem dX9_exactly_46 : decode cX9_exactly 46 = .ok (.iload 4, 2) := by decide +kernel
theorem dX9_exactly_48 : decode cX9_exactly 48 = .ok (.if_icmp .le 7, 3) := by decide +kernel
theorem dX9_exactly_51 : decode cX9_exactly 51 = .ok (.iconst 1, 1) := by decide +kernel
theorem dX9_exactly_52 : decode cX9_exactly 52 = .ok (.goto 4, 3) := by decide +kernel
theorem dX9_exactly_55 : decode cX9_exactly 55 = .ok (.iconst 0, 1) := by decide +kernel
theorem dX9_exactly_56 : decode cX9_exactly 56 = .ok (.istore 7, 2) := by decide +kernel
theorem dX9_exactly_58 : decode cX9_exactly 58 = .ok (.iload 7, 2) := by decide +kernel
theorem dX9_exactly_60 : decode cX9_exactly 60 = .ok (.ifCond .eq 13, 3) := by decide +kernel
theorem dX9_exactly_63 : decode cX9_exactly 63 = .ok (.aload_n 0, 1) := by decide +kernel
theorem dX9_exactly_64 : decode cX9_exactly 64 = .ok (.getfield 45, 3) := by decide +kernel
theorem dX9_exactly_67 : decode cX9_exactly 67 = .ok (.iload 5, 2) := by decide +kernel
theorem dX9_exactly_69 : decode cX9_exactly 69 = .ok (.iaload, 1) := by decide +kernel
theorem dX9_exactly_70 : decode cX9_exactly 70 = .ok (.goto 4, 3) := by decide +kernel
theorem dX9_exactly_73 : decode cX9_exactly 73 = .ok (.iload_n 3, 1) := by decide +kernel
theorem dX9_exactly_74 : decode cX9_exactly 74 = .ok (.istore_n 3, 1) := by decide +kernel
theorem dX9_exactly_75 : decode cX9_exactly 75 = .ok (.iload 7, 2) := by decide +kernel
theorem dX9_exactly_77 : decode cX9_exactly 77 = .ok (.ifCond .eq 8, 3) := by decide +kernel
theorem dX9_exactly_80 : decode cX9_exactly 80 = .ok (.iload 6, 2) := by decide +kernel
theorem dX9_exactly_82 : decode cX9_exactly 82 = .ok (.goto 5, 3) := by decide +kernel
theorem dX9_exactly_85 : decode cX9_exactly 85 = .ok (.iload 4, 2) := by decide +kernel
theorem dX9_exactly_87 : decode cX9_exactly 87 = .ok (.istore 4, 2) := by decide +kernel
theorem dX9_exactly_89 : decode cX9_exactly 89 = .ok (.iinc 5 1, 3) := by decide +kernel
theorem dX9_exactly_92 : decode cX9_exactly 92 = .ok (.goto (-79), 3) := by decide +kernel
theorem dX9_exactly_95 : decode cX9_exactly 95 = .ok (.iload_n 3, 1) := by decide +kernel
theorem dX9_exactly_96 : decode cX9_exactly 96 = .ok (.ireturn, 1) := by decide +kernel
set_option maxRecDepth 20000 in
theorem ggX9_choice_X9_greedy : GoodIn wsX9_choice wsX9_greedy := goodIn_r _ [5, 6, 7, 8, 4, 9, 10, 11, 12, 13, 14, 15, 16, 17, 18, 19, 20, 21, 22, 23, 24, 25, 26, 27, 28, 29, 30, 31, 32, 33, 34, 35, 36, 37, 38, 39, 40, 41, 42, 43, 44, 45, 46, 47, 48, 49, 50, 51, 52, 53, 54, 55, 56, 57, 58, 59, 60, 61, 62, 63, 64, 65, 66, 67, 68, 69, 70, 71, 72, 73, 124, 125, 126, 127, 128, 129, 130, 131, 132, 133, 134, 135, 136, 137, 138, 139, 140, 141, 142, 143, 144, 145, 146, 147, 148] (by decide +kernel) (by decide +kernel)
set_option maxRecDepth 20000 in
theorem gX9_choice_X9_greedy : GoodIn wsX9_choice (wsV RX9 279 RX9 yX9_greedy wsX9_greedy) := goodIn_app (goodIn_of _ (by decide +kernel)) ggX9_choice_X9_greedy
set_option maxRecDepth 20000 in
theorem ggX9_choice_X9_open : GoodIn wsX9_choice wsX9_open := goodIn_r _ [77, 10, 11, 12, 4, 13, 14, 15, 16, 17, 18, 19, 78, 79, 80, 24, 25, 26, 124, 125, 126, 127, 128, 129, 130, 131, 132, 133, 134, 135, 136, 137, 138, 139, 140, 141, 142, 143, 144, 145, 146, 147, 148] (by decide +kernel) (by decide +kernel)
set_option maxRecDepth 20000 in
theorem gX9_choice_X9_open : GoodIn wsX9_choice (wsV RX9 244 RX9 yX9_open wsX9_open) := goodIn_app (goodIn_of _ (by decide +kernel)) ggX9_choice_X9_open
set_option maxRecDepth 20000 in
theorem ggX9_choice_X9_keeping : GoodIn wsX9_choice wsX9_keeping := goodIn_r _ [84, 85, 86, 87, 4, 88, 10, 11, 12, 13, 14, 15, 16, 17, 18, 19, 20, 21, 22, 23, 24, 25, 26, 27, 28, 29, 30, 31, 32, 33, 34, 35, 36, 37, 38, 39, 40, 41, 42, 43, 44, 45, 46, 47, 48, 49, 50, 51, 52, 53, 54, 55, 56, 57, 58, 59, 60, 61, 62, 63, 64, 65, 70, 71, 72, 73, 6, 7, 8, 9, 89, 90, 91, 92, 93, 94, 95, 96, 97, 98, 99, 100, 1, 2, 3, 5, 66, 67, 68, 69, 124, 125, 126, 127, 128, 129, 130, 131, 132, 133, 134, 135, 136, 137, 138, 139, 140, 141, 142, 143, 144, 145, 146, 147, 148] (by decide +kernel) (by decide +kernel)
set_option maxRecDepth 20000 in
theorem gX9_choice_X9_keeping : GoodIn wsX9_choice (wsV RX9 282 RX9 yX9_keeping wsX9_keeping) := goodIn_app (goodIn_of _ (by decide +kernel)) ggX9_choice_X9_keeping
set_option maxRecDepth 20000 in
theorem ggX9_choice_X9_exactly : GoodIn wsX9_choice wsX9_exactly := goodIn_r _ [104, 105, 106, 107, 108, 109, 4, 110, 111, 112, 113, 114, 115, 10, 11, 12, 13, 14, 15, 16, 17, 18, 19, 24, 25, 26, 116, 117, 118, 119, 120, 121, 122, 123, 27, 28, 29, 30, 31, 32, 33, 34, 35, 36, 37, 38, 39, 40, 41, 42, 43, 44, 45, 46, 47, 48, 49, 50, 51, 52, 53, 54, 55, 56, 57, 58, 59, 60, 61, 124, 125, 126, 127, 128, 129, 130, 131, 132, 133, 134, 135, 136, 137, 138, 139, 140, 141, 142, 143, 144, 145, 146, 147, 148] (by decide +kernel) (by decide +kernel)
set_option maxRecDepth 20000 in
theorem gX9_choice_X9_exactly : GoodIn wsX9_choice (wsV RX9 285 RX9 yX9_exactly wsX9_exactly) := goodIn_app (goodIn_of _ (by decide +kernel)) ggX9_choice_X9_exactly
theorem dX9_choice_0 : decode cX9_choice 0 = .ok (.iload_n 1, 1) := by decide +kernel
theorem dX9_choice_1 : decode cX9_choice 1 = .ok (.ifCond .ne 11, 3) := by decide +kernel
theorem dX9_choice_4 : decode cX9_choice 4 = .ok (.aload_n 0, 1) := by decide +kernel
theorem dX9_choice_5 : decode cX9_choice 5 = .ok (.lload_n 2, 1) := by decide +kernel
theorem dX9_choice_6 : decode cX9_choice 6 = .ok (.invokevirtual 279, 3) := by decide +kernel
theorem dX9_choice_9 : decode cX9_choice 9 = .ok (.goto 31, 3) := by decide +kernel
theorem dX9_choice_12 : decode cX9_choice 12 = .ok (.iload_n 1, 1) := by decide +kernel
theorem dX9_choice_13 : decode cX9_choice 13 = .ok (.iconst 1, 1) := by decide +kernel
theorem dX9_choice_14 : decode cX9_choice 14 = .ok (.if_icmp .eq 13, 3) := by decide +kernel
theorem dX9_choice_17 : decode cX9_choice 17 = .ok (.aload_n 0, 1) := by decide +kernel
theorem dX9_choice_18 : decode cX9_choice 18 = .ok (.lload_n 2, 1) := by decide +kernel
theorem dX9_choice_19 : decode cX9_choice 19 = .ok (.invokevirtual 244, 3) := by decide +kernel
theorem dX9_choice_22 : decode cX9_choice 22 = .ok (.bipush 12, 2) := by decide +kernel
theorem dX9_choice_24 : decode cX9_choice 24 = .ok (.if_icmp .le 11, 3) := by decide +kernel
theorem dX9_choice_27 : decode cX9_choice 27 = .ok (.aload_n 0, 1) := by decide +kernel
theorem dX9_choice_28 : decode cX9_choice 28 = .ok (.lload_n 2, 1) := by decide +kernel
theorem dX9_choice_29 : decode cX9_choice 29 = .ok (.invokevirtual 282, 3) := by decide +kernel
theorem dX9_choice_32 : decode cX9_choice 32 = .ok (.goto 8, 3) := by decide +kernel
theorem dX9_choice_35 : decode cX9_choice 35 = .ok (.aload_n 0, 1) := by decide +kernel
theorem dX9_choice_36 : decode cX9_choice 36 = .ok (.lload_n 2, 1) := by decide +kernel
theorem dX9_choice_37 : decode cX9_choice 37 = .ok (.invokevirtual 285, 3) := by decide +kernel
theorem dX9_choice_40 : decode cX9_choice 40 = .ok (.ireturn, 1) := by decide +kernel
set_option maxRecDepth 20000 in
theorem ggX9_advice_X9_isStyle : GoodIn wsX9_advice wsX9_isStyle := goodIn_r _ [6, 7, 8, 5, 9] (by decide +kernel) (by decide +kernel)
set_option maxRecDepth 20000 in
theorem gX9_advice_X9_isStyle : GoodIn wsX9_advice (va_wsS RX9 137 yX9_isStyle wsX9_isStyle) := goodIn_app (goodIn_of _ (by decide +kernel)) ggX9_advice_X9_isStyle
set_option maxRecDepth 20000 in
theorem ggX9_advice_X9_choice : GoodIn wsX9_advice wsX9_choice := goodIn_r _ [13, 14, 15, 16, 5, 17, 18, 19, 20, 21, 22, 23, 24, 25, 26, 27, 28, 29, 30, 31, 32, 33, 34, 35, 36, 37, 38, 39, 40, 41, 42, 43, 44, 45, 46, 47, 48, 49, 50, 51, 52, 53, 54, 55, 56, 57, 58, 7, 8, 9, 59, 60, 61, 62, 63, 64, 65, 66, 67, 68, 69, 70, 71, 72, 73, 74, 75, 76, 77, 78, 79, 80, 81, 82, 83, 84, 85, 86, 87, 88, 89, 90, 91, 92, 93, 94, 95, 96, 97, 98, 99, 100, 101, 102, 103, 104, 105, 106, 107, 108, 109, 110, 111, 112, 113, 114, 115, 116, 117, 118, 119, 120, 121, 122, 123, 124, 125, 126, 127, 128, 129, 130, 131, 132, 133, 134, 135, 136, 137, 138, 139, 140, 141, 142, 143, 144, 145, 146, 147, 148, 149, 150, 151, 152, 153, 154, 155, 156, 157] (by decide +kernel) (by decide +kernel)
set_option maxRecDepth 20000 in
theorem gX9_advice_X9_choice : GoodIn wsX9_advice (wsV RX9 144 RX9 yX9_choice wsX9_choice) := goodIn_app (goodIn_of _ (by decide +kernel)) ggX9_advice_X9_choice
theorem dX9_advice_0 : decode cX9_advice 0 = .ok (.aload_n 0, 1) := by decide +kernel
theorem dX9_advice_1 : decode cX9_advice 1 = .ok (.iload_n 1, 1) := by decide +kernel
theorem dX9_advice_2 : decode cX9_advice 2 = .ok (.invokestatic 137, 3) := by decide +kernel
theorem dX9_advice_5 : decode cX9_advice 5 = .ok (.ifCond .eq 7, 3) := by decide +kernel
theorem dX9_advice_8 : decode cX9_advice 8 = .ok (.iconst 0, 1) := by decide +kernel
theorem dX9_advice_9 : decode cX9_advice 9 = .ok (.goto 4, 3) := by decide +kernel
theorem dX9_advice_12 : decode cX9_advice 12 = .ok (.iconst 1, 1) := by decide +kernel
theorem dX9_advice_13 : decode cX9_advice 13 = .ok (.putfield 59, 3) := by decide +kernel
theorem dX9_advice_16 : decode cX9_advice 16 = .ok (.aload_n 0, 1) := by decide +kernel
theorem dX9_advice_17 : decode cX9_advice 17 = .ok (.getfield 59, 3) := by decide +kernel
theorem dX9_advice_20 : decode cX9_advice 20 = .ok (.ifCond .le 7, 3) := by decide +kernel
theorem dX9_advice_23 : decode cX9_advice 23 = .ok (.iconst 0, 1) := by decide +kernel
theorem dX9_advice_24 : decode cX9_advice 24 = .ok (.goto 12, 3) := by decide +kernel
theorem dX9_advice_27 : decode cX9_advice 27 = .ok (.aload_n 0, 1) := by decide +kernel
theorem dX9_advice_28 : decode cX9_advice 28 = .ok (.iload_n 1, 1) := by decide +kernel
theorem dX9_advice_29 : decode cX9_advice 29 = .ok (.aload_n 0, 1) := by decide +kernel
theorem dX9_advice_30 : decode cX9_advice 30 = .ok (.getfield 119, 3) := by decide +kernel
theorem dX9_advice_33 : decode cX9_advice 33 = .ok (.invokevirtual 144, 3) := by decide +kernel
theorem dX9_advice_36 : decode cX9_advice 36 = .ok (.ireturn, 1) := by decide +kernel
set_option maxRecDepth 20000 in
theorem ggX9_beginPlay_X9_scoreOf : GoodIn wsX9_beginPlay wsX9_scoreOf := goodIn_r _ [10, 11, 12, 13, 14, 9, 15, 16, 17, 18, 19, 20, 21, 22, 23, 24, 25, 26, 27, 28, 29, 30, 31, 32, 33, 34, 35, 36, 37, 38, 39, 40, 41, 42] (by decide +kernel) (by decide +kernel)
set_option maxRecDepth 20000 in
theorem gX9_beginPlay_X9_scoreOf : GoodIn wsX9_beginPlay (wsV RX9 182 RX9 yX9_scoreOf wsX9_scoreOf) := goodIn_app (goodIn_of _ (by decide +kernel)) ggX9_beginPlay_X9_scoreOf
theorem dX9_beginPlay_0 : decode cX9_beginPlay 0 = .ok (.aload_n 0, 1) := by decide +kernel
theorem dX9_beginPlay_1 : decode cX9_beginPlay 1 = .ok (.aload_n 0, 1) := by decide +kernel
theorem dX9_beginPlay_2 : decode cX9_beginPlay 2 = .ok (.getfield 119, 3) := by decide +kernel
theorem dX9_beginPlay_5 : decode cX9_beginPlay 5 = .ok (.putfield 288, 3) := by decide +kernel
theorem dX9_beginPlay_8 : decode cX9_beginPlay 8 = .ok (.aload_n 0, 1) := by decide +kernel
theorem dX9_beginPlay_9 : decode cX9_beginPlay 9 = .ok (.aload_n 0, 1) := by decide +kernel
theorem dX9_beginPlay_10 : decode cX9_beginPlay 10 = .ok (.getfield 123, 3) := by decide +kernel
theorem dX9_beginPlay_13 : decode cX9_beginPlay 13 = .ok (.putfield 291, 3) := by decide +kernel
theorem dX9_beginPlay_16 : decode cX9_beginPlay 16 = .ok (.aload_n 0, 1) := by decide +kernel
theorem dX9_beginPlay_17 : decode cX9_beginPlay 17 = .ok (.aload_n 0, 1) := by decide +kernel
theorem dX9_beginPlay_18 : decode cX9_beginPlay 18 = .ok (.iconst 0, 1) := by decide +kernel
theorem dX9_beginPlay_19 : decode cX9_beginPlay 19 = .ok (.invokevirtual 182, 3) := by decide +kernel
theorem dX9_beginPlay_22 : decode cX9_beginPlay 22 = .ok (.aload_n 0, 1) := by decide +kernel
theorem dX9_beginPlay_23 : decode cX9_beginPlay 23 = .ok (.iconst 1, 1) := by decide +kernel
theorem dX9_beginPlay_24 : decode cX9_beginPlay 24 = .ok (.invokevirtual 182, 3) := by decide +kernel
theorem dX9_beginPlay_27 : decode cX9_beginPlay 27 = .ok (.isub, 1) := by decide +kernel
theorem dX9_beginPlay_28 : decode cX9_beginPlay 28 = .ok (.putfield 294, 3) := by decide +kernel
theorem dX9_beginPlay_31 : decode cX9_beginPlay 31 = .ok (.return_, 1) := by decide +kernel
set_option maxRecDepth 20000 in
theorem ggX9_play_X9_gains : GoodIn wsX9_play wsX9_gains := goodIn_r _ [8, 9, 10, 11, 7, 12, 13, 14, 15, 16, 17, 18, 19, 20, 21, 22, 23, 24, 25, 26, 27, 28, 29, 30, 31, 32, 33, 34, 35, 36, 37, 38, 39, 40, 41, 42, 43, 44, 45, 46, 47, 48, 49, 50, 51, 52, 53, 54, 55, 56, 57, 58, 59, 60, 61, 62, 63, 64, 65, 66, 67, 68, 69, 70, 71, 72, 73] (by decide +kernel) (by decide +kernel)
set_option maxRecDepth 20000 in
theorem gX9_play_X9_gains : GoodIn wsX9_play (wsV RX9 106 RX9 yX9_gains wsX9_gains) := goodIn_app (goodIn_of _ (by decide +kernel)) ggX9_play_X9_gains
theorem dX9_play_0 : decode cX9_play 0 = .ok (.aload_n 0, 1) := by decide +kernel
theorem dX9_play_1 : decode cX9_play 1 = .ok (.iload_n 1, 1) := by decide +kernel
theorem dX9_play_2 : decode cX9_play 2 = .ok (.aload_n 0, 1) := by decide +kernel
theorem dX9_play_3 : decode cX9_play 3 = .ok (.getfield 288, 3) := by decide +kernel
theorem dX9_play_6 : decode cX9_play 6 = .ok (.invokevirtual 106, 3) := by decide +kernel
theorem dX9_play_9 : decode cX9_play 9 = .ok (.istore_n 2, 1) := by decide +kernel
theorem dX9_play_10 : decode cX9_play 10 = .ok (.aload_n 0, 1) := by decide +kernel
theorem dX9_play_11 : decode cX9_play 11 = .ok (.dup, 1) := by decide +kernel
theorem dX9_play_12 : decode cX9_play 12 = .ok (.getfield 288, 3) := by decide +kernel
theorem dX9_play_15 : decode cX9_play 15 = .ok (.lconst 1, 1) := by decide +kernel
theorem dX9_play_16 : decode cX9_play 16 = .ok (.iload_n 1, 1) := by decide +kernel
theorem dX9_play_17 : decode cX9_play 17 = .ok (.lshl, 1) := by decide +kernel
theorem dX9_play_18 : decode cX9_play 18 = .ok (.lor, 1) := by decide +kernel
theorem dX9_play_19 : decode cX9_play 19 = .ok (.putfield 288, 3) := by decide +kernel
theorem dX9_play_22 : decode cX9_play 22 = .ok (.aload_n 0, 1) := by decide +kernel
theorem dX9_play_23 : decode cX9_play 23 = .ok (.dup, 1) := by decide +kernel
theorem dX9_play_24 : decode cX9_play 24 = .ok (.getfield 294, 3) := by decide +kernel
theorem dX9_play_27 : decode cX9_play 27 = .ok (.aload_n 0, 1) := by decide +kernel
theorem dX9_play_28 : decode cX9_play 28 = .ok (.getfield 291, 3) := by decide +kernel
theorem dX9_play_31 : decode cX9_play 31 = .ok (.ifCond .ne 7, 3) := by decide +kernel
theorem dX9_play_34 : decode cX9_play 34 = .ok (.iload_n 2, 1) := by decide +kernel
theorem dX9_play_35 : decode cX9_play 35 = .ok (.goto 5, 3) := by decide +kernel
theorem dX9_play_38 : decode cX9_play 38 = .ok (.iload_n 2, 1) := by decide +kernel
theorem dX9_play_39 : decode cX9_play 39 = .ok (.ineg, 1) := by decide +kernel
theorem dX9_play_40 : decode cX9_play 40 = .ok (.iadd, 1) := by decide +kernel
theorem dX9_play_41 : decode cX9_play 41 = .ok (.putfield 294, 3) := by decide +kernel
theorem dX9_play_44 : decode cX9_play 44 = .ok (.aload_n 0, 1) := by decide +kernel
theorem dX9_play_45 : decode cX9_play 45 = .ok (.iload_n 2, 1) := by decide +kernel
theorem dX9_play_46 : decode cX9_play 46 = .ok (.ifCond .le 10, 3) := by decide +kernel
theorem dX9_play_49 : decode cX9_play 49 = .ok (.aload_n 0, 1) := by decide +kernel
theorem dX9_play_50 : decode cX9_play 50 = .ok (.getfield 291, 3) := by decide +kernel
theorem dX9_play_53 : decode cX9_play 53 = .ok (.goto 9, 3) := by decide +kernel
theorem dX9_play_56 : decode cX9_play 56 = .ok (.iconst 1, 1) := by decide +kernel
theorem dX9_play_57 : decode cX9_play 57 = .ok (.aload_n 0, 1) := by decide +kernel
theorem dX9_play_58 : decode cX9_play 58 = .ok (.getfield 291, 3) := by decide +kernel
theorem dX9_play_61 : decode cX9_play 61 = .ok (.isub, 1) := by decide +kernel
theorem dX9_play_62 : decode cX9_play 62 = .ok (.putfield 291, 3) := by decide +kernel
theorem dX9_play_65 : decode cX9_play 65 = .ok (.iload_n 2, 1) := by decide +kernel
theorem dX9_play_66 : decode cX9_play 66 = .ok (.ifCond .ne 7, 3) := by decide +kernel
theorem dX9_play_69 : decode cX9_play 69 = .ok (.iconst 1, 1) := by decide +kernel
theorem dX9_play_70 : decode cX9_play 70 = .ok (.goto 4, 3) := by decide +kernel
theorem dX9_play_73 : decode cX9_play 73 = .ok (.iconst 0, 1) := by decide +kernel
theorem dX9_play_74 : decode cX9_play 74 = .ok (.ireturn, 1) := by decide +kernel
set_option maxRecDepth 20000 in
theorem ggX9_playout_X9_isStyle : GoodIn wsX9_playout wsX9_isStyle := goodIn_r _ [8, 9, 10, 7, 11] (by decide +kernel) (by decide +kernel)
set_option maxRecDepth 20000 in
theorem gX9_playout_X9_isStyle : GoodIn wsX9_playout (va_wsS RX9 137 yX9_isStyle wsX9_isStyle) := goodIn_app (goodIn_of _ (by decide +kernel)) ggX9_playout_X9_isStyle
set_option maxRecDepth 20000 in
theorem ggX9_playout_X9_within : GoodIn wsX9_playout wsX9_within := goodIn_r _ [11] (by decide +kernel) (by decide +kernel)
set_option maxRecDepth 20000 in
theorem gX9_playout_X9_within : GoodIn wsX9_playout (va_wsS RX9 73 yX9_within wsX9_within) := goodIn_app (goodIn_of _ (by decide +kernel)) ggX9_playout_X9_within
set_option maxRecDepth 20000 in
theorem ggX9_playout_X9_beginPlay : GoodIn wsX9_playout wsX9_beginPlay := goodIn_r _ [15, 16, 2, 17, 3, 4, 18, 19, 20, 7, 21, 22, 23, 24, 25, 26, 27, 28, 150, 151, 152, 153, 154, 155, 156, 157, 158, 159, 160, 161, 162, 163, 164, 165, 166, 167, 168, 169, 170, 171, 172, 173, 174] (by decide +kernel) (by decide +kernel)
set_option maxRecDepth 20000 in
theorem gX9_playout_X9_beginPlay : GoodIn wsX9_playout (wsV RX9 297 RX9 yX9_beginPlay wsX9_beginPlay) := goodIn_app (goodIn_of _ (by decide +kernel)) ggX9_playout_X9_beginPlay
set_option maxRecDepth 20000 in
theorem ggX9_playout_X9_open : GoodIn wsX9_playout wsX9_open := goodIn_r _ [32, 33, 34, 35, 7, 36, 28, 27, 37, 38, 39, 40, 41, 42, 43, 44, 45, 46, 150, 151, 152, 153, 154, 155, 156, 157, 158, 159, 160, 161, 162, 163, 164, 165, 166, 167, 168, 169, 170, 171, 172, 173, 174] (by decide +kernel) (by decide +kernel)
set_option maxRecDepth 20000 in
theorem gX9_playout_X9_open : GoodIn wsX9_playout (wsV RX9 244 RX9 yX9_open wsX9_open) := goodIn_app (goodIn_of _ (by decide +kernel)) ggX9_playout_X9_open
set_option maxRecDepth 20000 in
theorem ggX9_playout_X9_choice : GoodIn wsX9_playout wsX9_choice := goodIn_r _ [50, 51, 52, 53, 7, 54, 55, 56, 57, 58, 33, 34, 35, 36, 28, 27, 37, 38, 39, 40, 59, 60, 61, 62, 44, 45, 46, 63, 64, 65, 66, 67, 68, 69, 70, 71, 72, 73, 74, 75, 76, 77, 78, 79, 80, 81, 82, 9, 10, 11, 83, 84, 85, 86, 87, 88, 89, 90, 91, 92, 93, 94, 95, 96, 97, 98, 99, 100, 101, 102, 103, 104, 105, 106, 29, 30, 31, 32, 41, 42, 43, 107, 108, 109, 110, 111, 112, 113, 114, 23, 24, 25, 26, 115, 116, 117, 118, 119, 120, 121, 122, 123, 124, 125, 126, 127, 128, 129, 130, 131, 132, 133, 134, 135, 136, 137, 138, 139, 140, 141, 142, 143, 144, 145, 150, 151, 152, 153, 154, 155, 156, 157, 158, 159, 160, 161, 162, 163, 164, 165, 166, 167, 168, 169, 170, 171, 172, 173, 174] (by decide +kernel) (by decide +kernel)
set_option maxRecDepth 20000 in
theorem gX9_playout_X9_choice : GoodIn wsX9_playout (wsV RX9 144 RX9 yX9_choice wsX9_choice) := goodIn_app (goodIn_of _ (by decide +kernel)) ggX9_playout_X9_choice
set_option maxRecDepth 20000 in
theorem ggX9_playout_X9_play : GoodIn wsX9_playout wsX9_play := goodIn_r _ [149, 2, 4, 3, 63, 64, 65, 7, 66, 67, 68, 69, 70, 27, 28, 71, 72, 73, 74, 75, 76, 77, 78, 37, 38, 39, 40, 79, 80, 81, 82, 9, 10, 11, 83, 84, 85, 86, 87, 88, 89, 90, 91, 92, 93, 94, 44, 45, 46, 150, 151, 152, 153, 154, 155, 156, 157, 158, 159, 160, 161, 162, 163, 164, 165, 166, 167, 168, 169, 170, 171, 172, 173, 174] (by decide +kernel) (by decide +kernel)
set_option maxRecDepth 20000 in
theorem gX9_playout_X9_play : GoodIn wsX9_playout (wsV RX9 300 RX9 yX9_play wsX9_play) := goodIn_app (goodIn_of _ (by decide +kernel)) ggX9_playout_X9_play
theorem dX9_playout_0 : decode cX9_playout 0 = .ok (.aload_n 0, 1) := by decide +kernel
theorem dX9_playout_1 : decode cX9_playout 1 = .ok (.iload_n 1, 1) := by decide +kernel
theorem dX9_playout_2 : decode cX9_playout 2 = .ok (.invokestatic 137, 3) := by decide +kernel
theorem dX9_playout_5 : decode cX9_playout 5 = .ok (.ifCond .eq 23, 3) := by decide +kernel
theorem dX9_playout_8 : decode cX9_playout 8 = .ok (.iload_n 2, 1) := by decide +kernel
theorem dX9_playout_9 : decode cX9_playout 9 = .ok (.invokestatic 137, 3) := by decide +kernel
theorem dX9_playout_12 : decode cX9_playout 12 = .ok (.ifCond .eq 16, 3) := by decide +kernel
theorem dX9_playout_15 : decode cX9_playout 15 = .ok (.iload_n 3, 1) := by decide +kernel
theorem dX9_playout_16 : decode cX9_playout 16 = .ok (.iconst 0, 1) := by decide +kernel
theorem dX9_playout_17 : decode cX9_playout 17 = .ok (.iconst 2, 1) := by decide +kernel
theorem dX9_playout_18 : decode cX9_playout 18 = .ok (.invokestatic 73, 3) := by decide +kernel
theorem dX9_playout_21 : decode cX9_playout 21 = .ok (.ifCond .eq 7, 3) := by decide +kernel
theorem dX9_playout_24 : decode cX9_playout 24 = .ok (.iconst 0, 1) := by decide +kernel
theorem dX9_playout_25 : decode cX9_playout 25 = .ok (.goto 4, 3) := by decide +kernel
theorem dX9_playout_28 : decode cX9_playout 28 = .ok (.iconst 1, 1) := by decide +kernel
theorem dX9_playout_29 : decode cX9_playout 29 = .ok (.putfield 59, 3) := by decide +kernel
theorem dX9_playout_32 : decode cX9_playout 32 = .ok (.aload_n 0, 1) := by decide +kernel
theorem dX9_playout_33 : decode cX9_playout 33 = .ok (.getfield 59, 3) := by decide +kernel
theorem dX9_playout_36 : decode cX9_playout 36 = .ok (.ifCond .le 5, 3) := by decide +kernel
theorem dX9_playout_39 : decode cX9_playout 39 = .ok (.iconst 0, 1) := by decide +kernel
theorem dX9_playout_40 : decode cX9_playout 40 = .ok (.ireturn, 1) := by decide +kernel
theorem dX9_playout_41 : decode cX9_playout 41 = .ok (.aload_n 0, 1) := by decide +kernel
theorem dX9_playout_42 : decode cX9_playout 42 = .ok (.invokevirtual 297, 3) := by decide +kernel
theorem dX9_playout_45 : decode cX9_playout 45 = .ok (.iconst 0, 1) := by decide +kernel
theorem dX9_playout_46 : decode cX9_playout 46 = .ok (.istore 4, 2) := by decide +kernel
theorem dX9_playout_48 : decode cX9_playout 48 = .ok (.iconst (-1), 1) := by decide +kernel
theorem dX9_playout_49 : decode cX9_playout 49 = .ok (.istore 5, 2) := by decide +kernel
theorem dX9_playout_51 : decode cX9_playout 51 = .ok (.aload_n 0, 1) := by decide +kernel
theorem dX9_playout_52 : decode cX9_playout 52 = .ok (.aload_n 0, 1) := by decide +kernel
theorem dX9_playout_53 : decode cX9_playout 53 = .ok (.getfield 288, 3) := by decide +kernel
theorem dX9_playout_56 : decode cX9_playout 56 = .ok (.invokevirtual 244, 3) := by decide +kernel
theorem dX9_playout_59 : decode cX9_playout 59 = .ok (.ifCond .le 47, 3) := by decide +kernel
theorem dX9_playout_62 : decode cX9_playout 62 = .ok (.aload_n 0, 1) := by decide +kernel
theorem dX9_playout_63 : decode cX9_playout 63 = .ok (.aload_n 0, 1) := by decide +kernel
theorem dX9_playout_64 : decode cX9_playout 64 = .ok (.getfield 291, 3) := by decide +kernel
theorem dX9_playout_67 : decode cX9_playout 67 = .ok (.ifCond .ne 7, 3) := by decide +kernel
theorem dX9_playout_70 : decode cX9_playout 70 = .ok (.iload_n 1, 1) := by decide +kernel
theorem dX9_playout_71 : decode cX9_playout 71 = .ok (.goto 4, 3) := by decide +kernel
theorem dX9_playout_74 : decode cX9_playout 74 = .ok (.iload_n 2, 1) := by decide +kernel
theorem dX9_playout_75 : decode cX9_playout 75 = .ok (.aload_n 0, 1) := by decide +kernel
theorem dX9_playout_76 : decode cX9_playout 76 = .ok (.getfield 288, 3) := by decide +kernel
theorem dX9_playout_79 : decode cX9_playout 79 = .ok (.invokevirtual 144, 3) := by decide +kernel
theorem dX9_playout_82 : decode cX9_playout 82 = .ok (.istore 5, 2) := by decide +kernel
theorem dX9_playout_84 : decode cX9_playout 84 = .ok (.iload 4, 2) := by decide +kernel
theorem dX9_playout_86 : decode cX9_playout 86 = .ok (.aload_n 0, 1) := by decide +kernel
theorem dX9_playout_87 : decode cX9_playout 87 = .ok (.iload 5, 2) := by decide +kernel
theorem dX9_playout_89 : decode cX9_playout 89 = .ok (.invokevirtual 300, 3) := by decide +kernel
theorem dX9_playout_92 : decode cX9_playout 92 = .ok (.ifCond .eq 7, 3) := by decide +kernel
theorem dX9_playout_95 : decode cX9_playout 95 = .ok (.iconst 1, 1) := by decide +kernel
theorem dX9_playout_96 : decode cX9_playout 96 = .ok (.goto 4, 3) := by decide +kernel
theorem dX9_playout_99 : decode cX9_playout 99 = .ok (.iconst 0, 1) := by decide +kernel
theorem dX9_playout_100 : decode cX9_playout 100 = .ok (.iadd, 1) := by decide +kernel
theorem dX9_playout_101 : decode cX9_playout 101 = .ok (.istore 4, 2) := by decide +kernel
theorem dX9_playout_103 : decode cX9_playout 103 = .ok (.goto (-52), 3) := by decide +kernel
theorem dX9_playout_106 : decode cX9_playout 106 = .ok (.iload_n 3, 1) := by decide +kernel
theorem dX9_playout_107 : decode cX9_playout 107 = .ok (.ifCond .ne 10, 3) := by decide +kernel
theorem dX9_playout_110 : decode cX9_playout 110 = .ok (.aload_n 0, 1) := by decide +kernel
theorem dX9_playout_111 : decode cX9_playout 111 = .ok (.getfield 294, 3) := by decide +kernel
theorem dX9_playout_114 : decode cX9_playout 114 = .ok (.goto 15, 3) := by decide +kernel
theorem dX9_playout_117 : decode cX9_playout 117 = .ok (.iload_n 3, 1) := by decide +kernel
theorem dX9_playout_118 : decode cX9_playout 118 = .ok (.iconst 1, 1) := by decide +kernel
theorem dX9_playout_119 : decode cX9_playout 119 = .ok (.if_icmp .ne 8, 3) := by decide +kernel
theorem dX9_playout_122 : decode cX9_playout 122 = .ok (.iload 4, 2) := by decide +kernel
theorem dX9_playout_124 : decode cX9_playout 124 = .ok (.goto 5, 3) := by decide +kernel
theorem dX9_playout_127 : decode cX9_playout 127 = .ok (.iload 5, 2) := by decide +kernel
theorem dX9_playout_129 : decode cX9_playout 129 = .ok (.ireturn, 1) := by decide +kernel
set_option maxRecDepth 20000 in
theorem ggX9_openAt_X9_has : GoodIn wsX9_openAt wsX9_has := goodIn_r _ [5] (by decide +kernel) (by decide +kernel)
set_option maxRecDepth 20000 in
theorem gX9_openAt_X9_has : GoodIn wsX9_openAt (va_wsS RX9 62 yX9_has wsX9_has) := goodIn_app (goodIn_of _ (by decide +kernel)) ggX9_openAt_X9_has
theorem dX9_openAt_0 : decode cX9_openAt 0 = .ok (.iconst 0, 1) := by decide +kernel
theorem dX9_openAt_1 : decode cX9_openAt 1 = .ok (.istore_n 2, 1) := by decide +kernel
theorem dX9_openAt_2 : decode cX9_openAt 2 = .ok (.iload_n 1, 1) := by decide +kernel
theorem dX9_openAt_3 : decode cX9_openAt 3 = .ok (.istore_n 3, 1) := by decide +kernel
theorem dX9_openAt_4 : decode cX9_openAt 4 = .ok (.aload_n 0, 1) := by decide +kernel
theorem dX9_openAt_5 : decode cX9_openAt 5 = .ok (.getfield 288, 3) := by decide +kernel
theorem dX9_openAt_8 : decode cX9_openAt 8 = .ok (.iload_n 2, 1) := by decide +kernel
theorem dX9_openAt_9 : decode cX9_openAt 9 = .ok (.invokestatic 62, 3) := by decide +kernel
theorem dX9_openAt_12 : decode cX9_openAt 12 = .ok (.ifCond .ne 7, 3) := by decide +kernel
theorem dX9_openAt_15 : decode cX9_openAt 15 = .ok (.iload_n 3, 1) := by decide +kernel
theorem dX9_openAt_16 : decode cX9_openAt 16 = .ok (.ifCond .le 28, 3) := by decide +kernel
theorem dX9_openAt_19 : decode cX9_openAt 19 = .ok (.iload_n 3, 1) := by decide +kernel
theorem dX9_openAt_20 : decode cX9_openAt 20 = .ok (.aload_n 0, 1) := by decide +kernel
theorem dX9_openAt_21 : decode cX9_openAt 21 = .ok (.getfield 288, 3) := by decide +kernel
theorem dX9_openAt_24 : decode cX9_openAt 24 = .ok (.iload_n 2, 1) := by decide +kernel
theorem dX9_openAt_25 : decode cX9_openAt 25 = .ok (.invokestatic 62, 3) := by decide +kernel
theorem dX9_openAt_28 : decode cX9_openAt 28 = .ok (.ifCond .eq 7, 3) := by decide +kernel
theorem dX9_openAt_31 : decode cX9_openAt 31 = .ok (.iconst 0, 1) := by decide +kernel
theorem dX9_openAt_32 : decode cX9_openAt 32 = .ok (.goto 4, 3) := by decide +kernel
theorem dX9_openAt_35 : decode cX9_openAt 35 = .ok (.iconst 1, 1) := by decide +kernel
theorem dX9_openAt_36 : decode cX9_openAt 36 = .ok (.isub, 1) := by decide +kernel
theorem dX9_openAt_37 : decode cX9_openAt 37 = .ok (.istore_n 3, 1) := by decide +kernel
theorem dX9_openAt_38 : decode cX9_openAt 38 = .ok (.iinc 2 1, 3) := by decide +kernel
theorem dX9_openAt_41 : decode cX9_openAt 41 = .ok (.goto (-37), 3) := by decide +kernel
theorem dX9_openAt_44 : decode cX9_openAt 44 = .ok (.iload_n 2, 1) := by decide +kernel
theorem dX9_openAt_45 : decode cX9_openAt 45 = .ok (.ireturn, 1) := by decide +kernel
set_option maxRecDepth 20000 in
theorem ggX9_meanDifference_X9_within : GoodIn wsX9_meanDifference wsX9_within := goodIn_r _ [11] (by decide +kernel) (by decide +kernel)
set_option maxRecDepth 20000 in
theorem gX9_meanDifference_X9_within : GoodIn wsX9_meanDifference (va_wsS RX9 73 yX9_within wsX9_within) := goodIn_app (goodIn_of _ (by decide +kernel)) ggX9_meanDifference_X9_within
set_option maxRecDepth 20000 in
theorem ggX9_meanDifference_X9_beginPlay : GoodIn wsX9_meanDifference wsX9_beginPlay := goodIn_r _ [15, 16, 2, 17, 18, 7, 19, 20, 21, 10, 22, 23, 24, 25, 26, 27, 28, 29, 88, 89, 90, 91, 92, 93, 94, 95, 96, 97, 98, 99, 100, 101, 102, 103, 104, 105, 106, 107, 108, 109, 110, 111, 112] (by decide +kernel) (by decide +kernel)
set_option maxRecDepth 20000 in
theorem gX9_meanDifference_X9_beginPlay : GoodIn wsX9_meanDifference (wsV RX9 297 RX9 yX9_beginPlay wsX9_beginPlay) := goodIn_app (goodIn_of _ (by decide +kernel)) ggX9_meanDifference_X9_beginPlay
set_option maxRecDepth 20000 in
theorem ggX9_meanDifference_X9_open : GoodIn wsX9_meanDifference wsX9_open := goodIn_r _ [33, 34, 35, 36, 10, 37, 29, 28, 38, 39, 40, 41, 42, 43, 44, 45, 46, 47, 88, 89, 90, 91, 92, 93, 94, 95, 96, 97, 98, 99, 100, 101, 102, 103, 104, 105, 106, 107, 108, 109, 110, 111, 112] (by decide +kernel) (by decide +kernel)
set_option maxRecDepth 20000 in
theorem gX9_meanDifference_X9_open : GoodIn wsX9_meanDifference (wsV RX9 244 RX9 yX9_open wsX9_open) := goodIn_app (goodIn_of _ (by decide +kernel)) ggX9_meanDifference_X9_open
set_option maxRecDepth 20000 in
theorem ggX9_meanDifference_X9_openAt : GoodIn wsX9_meanDifference wsX9_openAt := goodIn_r _ [51, 2, 45, 46, 10, 47, 88, 89, 90, 91, 92, 93, 94, 95, 96, 97, 98, 99, 100, 101, 102, 103, 104, 105, 106, 107, 108, 109, 110, 111, 112] (by decide +kernel) (by decide +kernel)
set_option maxRecDepth 20000 in
theorem gX9_meanDifference_X9_openAt : GoodIn wsX9_meanDifference (wsV RX9 311 RX9 yX9_openAt wsX9_openAt) := goodIn_app (goodIn_of _ (by decide +kernel)) ggX9_meanDifference_X9_openAt
set_option maxRecDepth 20000 in
theorem ggX9_meanDifference_X9_play : GoodIn wsX9_meanDifference wsX9_play := goodIn_r _ [55, 2, 7, 18, 56, 57, 58, 10, 59, 60, 61, 62, 63, 28, 29, 64, 65, 66, 67, 68, 69, 70, 71, 38, 39, 40, 41, 72, 73, 74, 75, 8, 9, 11, 76, 77, 78, 79, 80, 81, 82, 83, 84, 85, 86, 87, 45, 46, 47, 88, 89, 90, 91, 92, 93, 94, 95, 96, 97, 98, 99, 100, 101, 102, 103, 104, 105, 106, 107, 108, 109, 110, 111, 112] (by decide +kernel) (by decide +kernel)
set_option maxRecDepth 20000 in
theorem gX9_meanDifference_X9_play : GoodIn wsX9_meanDifference (wsV RX9 300 RX9 yX9_play wsX9_play) := goodIn_app (goodIn_of _ (by decide +kernel)) ggX9_meanDifference_X9_play
theorem dX9_meanDifference_0 : decode cX9_meanDifference 0 = .ok (.aload_n 0, 1) := by decide +kernel
theorem dX9_meanDifference_1 : decode cX9_meanDifference 1 = .ok (.iload_n 1, 1) := by decide +kernel
theorem dX9_meanDifference_2 : decode cX9_meanDifference 2 = .ok (.iconst 1, 1) := by decide +kernel
theorem dX9_meanDifference_3 : decode cX9_meanDifference 3 = .ok (.bipush 20, 2) := by decide +kernel
theorem dX9_meanDifference_5 : decode cX9_meanDifference 5 = .ok (.invokestatic 73, 3) := by decide +kernel
theorem dX9_meanDifference_8 : decode cX9_meanDifference 8 = .ok (.ifCond .eq 11, 3) := by decide +kernel
theorem dX9_meanDifference_11 : decode cX9_meanDifference 11 = .ok (.iload_n 2, 1) := by decide +kernel
theorem dX9_meanDifference_12 : decode cX9_meanDifference 12 = .ok (.ifCond .lt 7, 3) := by decide +kernel
theorem dX9_meanDifference_15 : decode cX9_meanDifference 15 = .ok (.iconst 0, 1) := by decide +kernel
theorem dX9_meanDifference_16 : decode cX9_meanDifference 16 = .ok (.goto 4, 3) := by decide +kernel
theorem dX9_meanDifference_19 : decode cX9_meanDifference 19 = .ok (.iconst 1, 1) := by decide +kernel
theorem dX9_meanDifference_20 : decode cX9_meanDifference 20 = .ok (.putfield 59, 3) := by decide +kernel
theorem dX9_meanDifference_23 : decode cX9_meanDifference 23 = .ok (.aload_n 0, 1) := by decide +kernel
theorem dX9_meanDifference_24 : decode cX9_meanDifference 24 = .ok (.getfield 59, 3) := by decide +kernel
theorem dX9_meanDifference_27 : decode cX9_meanDifference 27 = .ok (.ifCond .le 5, 3) := by decide +kernel
theorem dX9_meanDifference_30 : decode cX9_meanDifference 30 = .ok (.dconst 0, 1) := by decide +kernel
theorem dX9_meanDifference_31 : decode cX9_meanDifference 31 = .ok (.dreturn, 1) := by decide +kernel
theorem dX9_meanDifference_32 : decode cX9_meanDifference 32 = .ok (.iload_n 2, 1) := by decide +kernel
theorem dX9_meanDifference_33 : decode cX9_meanDifference 33 = .ok (.i2l, 1) := by decide +kernel
theorem dX9_meanDifference_34 : decode cX9_meanDifference 34 = .ok (.lstore_n 3, 1) := by decide +kernel
theorem dX9_meanDifference_35 : decode cX9_meanDifference 35 = .ok (.iconst 0, 1) := by decide +kernel
theorem dX9_meanDifference_36 : decode cX9_meanDifference 36 = .ok (.istore 5, 2) := by decide +kernel
theorem dX9_meanDifference_38 : decode cX9_meanDifference 38 = .ok (.iconst 0, 1) := by decide +kernel
theorem dX9_meanDifference_39 : decode cX9_meanDifference 39 = .ok (.istore 6, 2) := by decide +kernel
theorem dX9_meanDifference_41 : decode cX9_meanDifference 41 = .ok (.iload 6, 2) := by decide +kernel
theorem dX9_meanDifference_43 : decode cX9_meanDifference 43 = .ok (.iload_n 1, 1) := by decide +kernel
theorem dX9_meanDifference_44 : decode cX9_meanDifference 44 = .ok (.if_icmp .ge 75, 3) := by decide +kernel
theorem dX9_meanDifference_47 : decode cX9_meanDifference 47 = .ok (.aload_n 0, 1) := by decide +kernel
theorem dX9_meanDifference_48 : decode cX9_meanDifference 48 = .ok (.invokevirtual 297, 3) := by decide +kernel
theorem dX9_meanDifference_51 : decode cX9_meanDifference 51 = .ok (.aload_n 0, 1) := by decide +kernel
theorem dX9_meanDifference_52 : decode cX9_meanDifference 52 = .ok (.aload_n 0, 1) := by decide +kernel
theorem dX9_meanDifference_53 : decode cX9_meanDifference 53 = .ok (.getfield 288, 3) := by decide +kernel
theorem dX9_meanDifference_56 : decode cX9_meanDifference 56 = .ok (.invokevirtual 244, 3) := by decide +kernel
theorem dX9_meanDifference_59 : decode cX9_meanDifference 59 = .ok (.ifCond .le 45, 3) := by decide +kernel
theorem dX9_meanDifference_62 : decode cX9_meanDifference 62 = .ok (.ldc2_w 303, 3) := by decide +kernel
theorem dX9_meanDifference_65 : decode cX9_meanDifference 65 = .ok (.lload_n 3, 1) := by decide +kernel
theorem dX9_meanDifference_66 : decode cX9_meanDifference 66 = .ok (.lmul, 1) := by decide +kernel
theorem dX9_meanDifference_67 : decode cX9_meanDifference 67 = .ok (.ldc2_w 305, 3) := by decide +kernel
theorem dX9_meanDifference_70 : decode cX9_meanDifference 70 = .ok (.ladd, 1) := by decide +kernel
theorem dX9_meanDifference_71 : decode cX9_meanDifference 71 = .ok (.ldc2_w 307, 3) := by decide +kernel
theorem dX9_meanDifference_74 : decode cX9_meanDifference 74 = .ok (.lrem, 1) := by decide +kernel
theorem dX9_meanDifference_75 : decode cX9_meanDifference 75 = .ok (.lstore_n 3, 1) := by decide +kernel
theorem dX9_meanDifference_76 : decode cX9_meanDifference 76 = .ok (.aload_n 0, 1) := by decide +kernel
theorem dX9_meanDifference_77 : decode cX9_meanDifference 77 = .ok (.aload_n 0, 1) := by decide +kernel
theorem dX9_meanDifference_78 : decode cX9_meanDifference 78 = .ok (.lload_n 3, 1) := by decide +kernel
theorem dX9_meanDifference_79 : decode cX9_meanDifference 79 = .ok (.ldc2_w 309, 3) := by decide +kernel
theorem dX9_meanDifference_82 : decode cX9_meanDifference 82 = .ok (.ldiv, 1) := by decide +kernel
theorem dX9_meanDifference_83 : decode cX9_meanDifference 83 = .ok (.aload_n 0, 1) := by decide +kernel
theorem dX9_meanDifference_84 : decode cX9_meanDifference 84 = .ok (.aload_n 0, 1) := by decide +kernel
theorem dX9_meanDifference_85 : decode cX9_meanDifference 85 = .ok (.getfield 288, 3) := by decide +kernel
theorem dX9_meanDifference_88 : decode cX9_meanDifference 88 = .ok (.invokevirtual 244, 3) := by decide +kernel
theorem dX9_meanDifference_91 : decode cX9_meanDifference 91 = .ok (.i2l, 1) := by decide +kernel
theorem dX9_meanDifference_92 : decode cX9_meanDifference 92 = .ok (.lrem, 1) := by decide +kernel
theorem dX9_meanDifference_93 : decode cX9_meanDifference 93 = .ok (.l2i, 1) := by decide +kernel
theorem dX9_meanDifference_94 : decode cX9_meanDifference 94 = .ok (.invokevirtual 311, 3) := by decide +kernel
theorem dX9_meanDifference_97 : decode cX9_meanDifference 97 = .ok (.invokevirtual 300, 3) := by decide +kernel
theorem dX9_meanDifference_100 : decode cX9_meanDifference 100 = .ok (.pop, 1) := by decide +kernel
theorem dX9_meanDifference_101 : decode cX9_meanDifference 101 = .ok (.goto (-50), 3) := by decide +kernel
theorem dX9_meanDifference_104 : decode cX9_meanDifference 104 = .ok (.iload 5, 2) := by decide +kernel
theorem dX9_meanDifference_106 : decode cX9_meanDifference 106 = .ok (.aload_n 0, 1) := by decide +kernel
theorem dX9_meanDifference_107 : decode cX9_meanDifference 107 = .ok (.getfield 294, 3) := by decide +kernel
theorem dX9_meanDifference_110 : decode cX9_meanDifference 110 = .ok (.iadd, 1) := by decide +kernel
theorem dX9_meanDifference_111 : decode cX9_meanDifference 111 = .ok (.istore 5, 2) := by decide +kernel
theorem dX9_meanDifference_113 : decode cX9_meanDifference 113 = .ok (.iinc 6 1, 3) := by decide +kernel
theorem dX9_meanDifference_116 : decode cX9_meanDifference 116 = .ok (.goto (-75), 3) := by decide +kernel
theorem dX9_meanDifference_119 : decode cX9_meanDifference 119 = .ok (.iload 5, 2) := by decide +kernel
theorem dX9_meanDifference_121 : decode cX9_meanDifference 121 = .ok (.i2d, 1) := by decide +kernel
theorem dX9_meanDifference_122 : decode cX9_meanDifference 122 = .ok (.iload_n 1, 1) := by decide +kernel
theorem dX9_meanDifference_123 : decode cX9_meanDifference 123 = .ok (.i2d, 1) := by decide +kernel
theorem dX9_meanDifference_124 : decode cX9_meanDifference 124 = .ok (.ddiv, 1) := by decide +kernel
theorem dX9_meanDifference_125 : decode cX9_meanDifference 125 = .ok (.dreturn, 1) := by decide +kernel
theorem dX9_mix_0 : decode cX9_mix 0 = .ok (.aload_n 0, 1) := by decide +kernel
theorem dX9_mix_1 : decode cX9_mix 1 = .ok (.ldc2_w 314, 3) := by decide +kernel
theorem dX9_mix_4 : decode cX9_mix 4 = .ok (.aload_n 0, 1) := by decide +kernel
theorem dX9_mix_5 : decode cX9_mix 5 = .ok (.getfield 316, 3) := by decide +kernel
theorem dX9_mix_8 : decode cX9_mix 8 = .ok (.lmul, 1) := by decide +kernel
theorem dX9_mix_9 : decode cX9_mix 9 = .ok (.lload_n 1, 1) := by decide +kernel
theorem dX9_mix_10 : decode cX9_mix 10 = .ok (.ladd, 1) := by decide +kernel
theorem dX9_mix_11 : decode cX9_mix 11 = .ok (.putfield 316, 3) := by decide +kernel
theorem dX9_mix_14 : decode cX9_mix 14 = .ok (.return_, 1) := by decide +kernel
set_option maxRecDepth 20000 in
theorem ggX9_mixBoard_X9_all : GoodIn wsX9_mixBoard wsX9_all := goodIn_r _ [11, 12, 13, 14, 15, 16, 10, 17, 126, 127, 128, 129, 130, 131, 132, 133, 134, 135, 136, 137, 138, 139, 140, 141, 142, 143, 144, 145, 146, 147, 148, 149, 150] (by decide +kernel) (by decide +kernel)
set_option maxRecDepth 20000 in
theorem gX9_mixBoard_X9_all : GoodIn wsX9_mixBoard (wsV RX9 70 RX9 yX9_all wsX9_all) := goodIn_app (goodIn_of _ (by decide +kernel)) ggX9_mixBoard_X9_all
set_option maxRecDepth 20000 in
theorem ggX9_mixBoard_X9_kindIn : GoodIn wsX9_mixBoard wsX9_kindIn := goodIn_r _ [21, 22, 23, 10, 24, 25, 26, 27, 28, 29, 30, 31, 32, 13, 12, 33, 34, 35, 36, 37, 38, 39, 40, 14, 15, 16, 17, 41, 42, 43, 44, 45, 46, 47, 48, 49, 50, 51, 52, 53, 54, 55, 56, 57, 58, 59, 60, 61, 62, 63, 126, 127, 128, 129, 130, 131, 132, 133, 134, 135, 136, 137, 138, 139, 140, 141, 142, 143, 144, 145, 146, 147, 148, 149, 150] (by decide +kernel) (by decide +kernel)
set_option maxRecDepth 20000 in
theorem gX9_mixBoard_X9_kindIn : GoodIn wsX9_mixBoard (wsV RX9 113 RX9 yX9_kindIn wsX9_kindIn) := goodIn_app (goodIn_of _ (by decide +kernel)) ggX9_mixBoard_X9_kindIn
set_option maxRecDepth 20000 in
theorem ggX9_mixBoard_X9_mix : GoodIn wsX9_mixBoard wsX9_mix := goodIn_r _ [67, 68, 69, 126, 127, 128, 129, 130, 131, 132, 133, 134, 135, 136, 137, 138, 139, 140, 141, 142, 143, 144, 145, 146, 147, 148, 149, 150] (by decide +kernel) (by decide +kernel)
set_option maxRecDepth 20000 in
theorem gX9_mixBoard_X9_mix : GoodIn wsX9_mixBoard (wsV RX9 319 RX9 yX9_mix wsX9_mix) := goodIn_app (goodIn_of _ (by decide +kernel)) ggX9_mixBoard_X9_mix
set_option maxRecDepth 20000 in
theorem ggX9_mixBoard_X9_layStrings : GoodIn wsX9_mixBoard wsX9_layStrings := goodIn_r _ [73, 6, 5, 74, 75, 76, 1, 77, 78, 79, 10, 80, 13, 12, 81, 82, 83, 84, 48, 49, 50, 51, 52, 53, 54, 55, 56, 57, 58, 59, 14, 15, 16, 17, 22, 23, 24, 45, 46, 47, 85, 86, 87, 88, 89, 90, 91, 92, 29, 30, 31, 32, 33, 34, 35, 36, 37, 38, 39, 40, 41, 42, 43, 44, 93, 94, 95, 96, 126, 127, 128, 129, 130, 131, 132, 133, 134, 135, 136, 137, 138, 139, 140, 141, 142, 143, 144, 145, 146, 147, 148, 149, 150] (by decide +kernel) (by decide +kernel)
set_option maxRecDepth 20000 in
theorem gX9_mixBoard_X9_layStrings : GoodIn wsX9_mixBoard (wsV RX9 176 RX9 yX9_layStrings wsX9_layStrings) := goodIn_app (goodIn_of _ (by decide +kernel)) ggX9_mixBoard_X9_layStrings
set_option maxRecDepth 20000 in
theorem ggX9_mixBoard_X9_boxes : GoodIn wsX9_mixBoard wsX9_boxes := goodIn_r _ [80, 13, 12, 126, 127, 128, 129, 130, 131, 132, 133, 134, 135, 136, 137, 138, 139, 140, 141, 142, 143, 144, 145, 146, 147, 148, 149, 150] (by decide +kernel) (by decide +kernel)
set_option maxRecDepth 20000 in
theorem gX9_mixBoard_X9_boxes : GoodIn wsX9_mixBoard (wsV RX9 77 RX9 yX9_boxes wsX9_boxes) := goodIn_app (goodIn_of _ (by decide +kernel)) ggX9_mixBoard_X9_boxes
set_option maxRecDepth 20000 in
theorem ggX9_mixBoard_X9_stringNow : GoodIn wsX9_mixBoard wsX9_stringNow := goodIn_r _ [100, 74, 75, 76, 101, 102, 103, 10, 104, 5, 1, 7, 8, 9, 11, 12, 13, 14, 15, 16, 17, 29, 30, 31, 32, 33, 34, 35, 36, 37, 38, 39, 40, 41, 42, 43, 44, 45, 46, 47, 81, 82, 83, 84, 48, 49, 50, 51, 52, 53, 54, 55, 56, 57, 58, 59, 22, 23, 24, 126, 127, 128, 129, 130, 131, 132, 133, 134, 135, 136, 137, 138, 139, 140, 141, 142, 143, 144, 145, 146, 147, 148, 149, 150] (by decide +kernel) (by decide +kernel)
set_option maxRecDepth 20000 in
theorem gX9_mixBoard_X9_stringNow : GoodIn wsX9_mixBoard (wsV RX9 208 RX9 yX9_stringNow wsX9_stringNow) := goodIn_app (goodIn_of _ (by decide +kernel)) ggX9_mixBoard_X9_stringNow
set_option maxRecDepth 20000 in
theorem ggX9_mixBoard_X9_controlNow : GoodIn wsX9_mixBoard wsX9_controlNow := goodIn_r _ [108, 6, 75, 74, 76, 13, 12, 70, 71, 72, 10, 73, 5, 1, 77, 78, 79, 80, 81, 82, 83, 84, 48, 49, 50, 51, 52, 53, 54, 55, 56, 57, 58, 59, 14, 15, 16, 17, 22, 23, 24, 45, 46, 47, 85, 86, 87, 88, 89, 90, 91, 92, 29, 30, 31, 32, 33, 34, 35, 36, 37, 38, 39, 40, 41, 42, 43, 44, 93, 94, 95, 96, 109, 110, 111, 112, 113, 114, 115, 116, 126, 127, 128, 129, 130, 131, 132, 133, 134, 135, 136, 137, 138, 139, 140, 141, 142, 143, 144, 145, 146, 147, 148, 149, 150] (by decide +kernel) (by decide +kernel)
set_option maxRecDepth 20000 in
theorem gX9_mixBoard_X9_controlNow : GoodIn wsX9_mixBoard (wsV RX9 217 RX9 yX9_controlNow wsX9_controlNow) := goodIn_app (goodIn_of _ (by decide +kernel)) ggX9_mixBoard_X9_controlNow
set_option maxRecDepth 20000 in
theorem ggX9_mixBoard_X9_predictionNow : GoodIn wsX9_mixBoard wsX9_predictionNow := goodIn_r _ [120, 121, 6, 22, 23, 10, 24, 122, 123, 124, 125, 74, 75, 109, 110, 111, 112, 126, 127, 128, 129, 130, 131, 132, 133, 134, 135, 136, 137, 138, 139, 140, 141, 142, 143, 144, 145, 146, 147, 148, 149, 150] (by decide +kernel) (by decide +kernel)
set_option maxRecDepth 20000 in
theorem gX9_mixBoard_X9_predictionNow : GoodIn wsX9_mixBoard (wsV RX9 223 RX9 yX9_predictionNow wsX9_predictionNow) := goodIn_app (goodIn_of _ (by decide +kernel)) ggX9_mixBoard_X9_predictionNow
theorem dX9_mixBoard_0 : decode cX9_mixBoard 0 = .ok (.iconst 0, 1) := by decide +kernel
theorem dX9_mixBoard_1 : decode cX9_mixBoard 1 = .ok (.istore_n 1, 1) := by decide +kernel
theorem dX9_mixBoard_2 : decode cX9_mixBoard 2 = .ok (.iload_n 1, 1) := by decide +kernel
theorem dX9_mixBoard_3 : decode cX9_mixBoard 3 = .ok (.aload_n 0, 1) := by decide +kernel
theorem dX9_mixBoard_4 : decode cX9_mixBoard 4 = .ok (.invokevirtual 70, 3) := by decide +kernel
theorem dX9_mixBoard_7 : decode cX9_mixBoard 7 = .ok (.if_icmp .ge 23, 3) := by decide +kernel
theorem dX9_mixBoard_10 : decode cX9_mixBoard 10 = .ok (.aload_n 0, 1) := by decide +kernel
theorem dX9_mixBoard_11 : decode cX9_mixBoard 11 = .ok (.aload_n 0, 1) := by decide +kernel
theorem dX9_mixBoard_12 : decode cX9_mixBoard 12 = .ok (.iload_n 1, 1) := by decide +kernel
theorem dX9_mixBoard_13 : decode cX9_mixBoard 13 = .ok (.aload_n 0, 1) := by decide +kernel
theorem dX9_mixBoard_14 : decode cX9_mixBoard 14 = .ok (.getfield 119, 3) := by decide +kernel
theorem dX9_mixBoard_17 : decode cX9_mixBoard 17 = .ok (.invokevirtual 113, 3) := by decide +kernel
theorem dX9_mixBoard_20 : decode cX9_mixBoard 20 = .ok (.i2l, 1) := by decide +kernel
theorem dX9_mixBoard_21 : decode cX9_mixBoard 21 = .ok (.invokevirtual 319, 3) := by decide +kernel
theorem dX9_mixBoard_24 : decode cX9_mixBoard 24 = .ok (.iinc 1 1, 3) := by decide +kernel
theorem dX9_mixBoard_27 : decode cX9_mixBoard 27 = .ok (.goto (-25), 3) := by decide +kernel
theorem dX9_mixBoard_30 : decode cX9_mixBoard 30 = .ok (.iconst 0, 1) := by decide +kernel
theorem dX9_mixBoard_31 : decode cX9_mixBoard 31 = .ok (.istore_n 1, 1) := by decide +kernel
theorem dX9_mixBoard_32 : decode cX9_mixBoard 32 = .ok (.iload_n 1, 1) := by decide +kernel
theorem dX9_mixBoard_33 : decode cX9_mixBoard 33 = .ok (.aload_n 0, 1) := by decide +kernel
theorem dX9_mixBoard_34 : decode cX9_mixBoard 34 = .ok (.getfield 126, 3) := by decide +kernel
theorem dX9_mixBoard_37 : decode cX9_mixBoard 37 = .ok (.if_icmp .ge 20, 3) := by decide +kernel
theorem dX9_mixBoard_40 : decode cX9_mixBoard 40 = .ok (.aload_n 0, 1) := by decide +kernel
theorem dX9_mixBoard_41 : decode cX9_mixBoard 41 = .ok (.aload_n 0, 1) := by decide +kernel
theorem dX9_mixBoard_42 : decode cX9_mixBoard 42 = .ok (.getfield 16, 3) := by decide +kernel
theorem dX9_mixBoard_45 : decode cX9_mixBoard 45 = .ok (.iload_n 1, 1) := by decide +kernel
theorem dX9_mixBoard_46 : decode cX9_mixBoard 46 = .ok (.iaload, 1) := by decide +kernel
theorem dX9_mixBoard_47 : decode cX9_mixBoard 47 = .ok (.i2l, 1) := by decide +kernel
theorem dX9_mixBoard_48 : decode cX9_mixBoard 48 = .ok (.invokevirtual 319, 3) := by decide +kernel
theorem dX9_mixBoard_51 : decode cX9_mixBoard 51 = .ok (.iinc 1 1, 3) := by decide +kernel
theorem dX9_mixBoard_54 : decode cX9_mixBoard 54 = .ok (.goto (-22), 3) := by decide +kernel
theorem dX9_mixBoard_57 : decode cX9_mixBoard 57 = .ok (.aload_n 0, 1) := by decide +kernel
theorem dX9_mixBoard_58 : decode cX9_mixBoard 58 = .ok (.invokevirtual 176, 3) := by decide +kernel
theorem dX9_mixBoard_61 : decode cX9_mixBoard 61 = .ok (.pop, 1) := by decide +kernel
theorem dX9_mixBoard_62 : decode cX9_mixBoard 62 = .ok (.iconst 0, 1) := by decide +kernel
theorem dX9_mixBoard_63 : decode cX9_mixBoard 63 = .ok (.istore_n 1, 1) := by decide +kernel
theorem dX9_mixBoard_64 : decode cX9_mixBoard 64 = .ok (.iload_n 1, 1) := by decide +kernel
theorem dX9_mixBoard_65 : decode cX9_mixBoard 65 = .ok (.aload_n 0, 1) := by decide +kernel
theorem dX9_mixBoard_66 : decode cX9_mixBoard 66 = .ok (.invokevirtual 77, 3) := by decide +kernel
theorem dX9_mixBoard_69 : decode cX9_mixBoard 69 = .ok (.if_icmp .ge 31, 3) := by decide +kernel
theorem dX9_mixBoard_72 : decode cX9_mixBoard 72 = .ok (.aload_n 0, 1) := by decide +kernel
theorem dX9_mixBoard_73 : decode cX9_mixBoard 73 = .ok (.aload_n 0, 1) := by decide +kernel
theorem dX9_mixBoard_74 : decode cX9_mixBoard 74 = .ok (.getfield 23, 3) := by decide +kernel
theorem dX9_mixBoard_77 : decode cX9_mixBoard 77 = .ok (.iload_n 1, 1) := by decide +kernel
theorem dX9_mixBoard_78 : decode cX9_mixBoard 78 = .ok (.iaload, 1) := by decide +kernel
theorem dX9_mixBoard_79 : decode cX9_mixBoard 79 = .ok (.i2l, 1) := by decide +kernel
theorem dX9_mixBoard_80 : decode cX9_mixBoard 80 = .ok (.invokevirtual 319, 3) := by decide +kernel
theorem dX9_mixBoard_83 : decode cX9_mixBoard 83 = .ok (.aload_n 0, 1) := by decide +kernel
theorem dX9_mixBoard_84 : decode cX9_mixBoard 84 = .ok (.aload_n 0, 1) := by decide +kernel
theorem dX9_mixBoard_85 : decode cX9_mixBoard 85 = .ok (.getfield 29, 3) := by decide +kernel
theorem dX9_mixBoard_88 : decode cX9_mixBoard 88 = .ok (.iload_n 1, 1) := by decide +kernel
theorem dX9_mixBoard_89 : decode cX9_mixBoard 89 = .ok (.iaload, 1) := by decide +kernel
theorem dX9_mixBoard_90 : decode cX9_mixBoard 90 = .ok (.i2l, 1) := by decide +kernel
theorem dX9_mixBoard_91 : decode cX9_mixBoard 91 = .ok (.invokevirtual 319, 3) := by decide +kernel
theorem dX9_mixBoard_94 : decode cX9_mixBoard 94 = .ok (.iinc 1 1, 3) := by decide +kernel
theorem dX9_mixBoard_97 : decode cX9_mixBoard 97 = .ok (.goto (-33), 3) := by decide +kernel
theorem dX9_mixBoard_100 : decode cX9_mixBoard 100 = .ok (.iconst 0, 1) := by decide +kernel
theorem dX9_mixBoard_101 : decode cX9_mixBoard 101 = .ok (.istore_n 1, 1) := by decide +kernel
theorem dX9_mixBoard_102 : decode cX9_mixBoard 102 = .ok (.iload_n 1, 1) := by decide +kernel
theorem dX9_mixBoard_103 : decode cX9_mixBoard 103 = .ok (.iconst 5, 1) := by decide +kernel
theorem dX9_mixBoard_104 : decode cX9_mixBoard 104 = .ok (.aload_n 0, 1) := by decide +kernel
theorem dX9_mixBoard_105 : decode cX9_mixBoard 105 = .ok (.getfield 194, 3) := by decide +kernel
theorem dX9_mixBoard_108 : decode cX9_mixBoard 108 = .ok (.imul, 1) := by decide +kernel
theorem dX9_mixBoard_109 : decode cX9_mixBoard 109 = .ok (.if_icmp .ge 24, 3) := by decide +kernel
theorem dX9_mixBoard_112 : decode cX9_mixBoard 112 = .ok (.aload_n 0, 1) := by decide +kernel
theorem dX9_mixBoard_113 : decode cX9_mixBoard 113 = .ok (.aload_n 0, 1) := by decide +kernel
theorem dX9_mixBoard_114 : decode cX9_mixBoard 114 = .ok (.iload_n 1, 1) := by decide +kernel
theorem dX9_mixBoard_115 : decode cX9_mixBoard 115 = .ok (.iconst 5, 1) := by decide +kernel
theorem dX9_mixBoard_116 : decode cX9_mixBoard 116 = .ok (.idiv, 1) := by decide +kernel
theorem dX9_mixBoard_117 : decode cX9_mixBoard 117 = .ok (.iload_n 1, 1) := by decide +kernel
theorem dX9_mixBoard_118 : decode cX9_mixBoard 118 = .ok (.iconst 5, 1) := by decide +kernel
theorem dX9_mixBoard_119 : decode cX9_mixBoard 119 = .ok (.irem, 1) := by decide +kernel
theorem dX9_mixBoard_120 : decode cX9_mixBoard 120 = .ok (.invokevirtual 208, 3) := by decide +kernel
theorem dX9_mixBoard_123 : decode cX9_mixBoard 123 = .ok (.i2l, 1) := by decide +kernel
theorem dX9_mixBoard_124 : decode cX9_mixBoard 124 = .ok (.invokevirtual 319, 3) := by decide +kernel
theorem dX9_mixBoard_127 : decode cX9_mixBoard 127 = .ok (.iinc 1 1, 3) := by decide +kernel
theorem dX9_mixBoard_130 : decode cX9_mixBoard 130 = .ok (.goto (-28), 3) := by decide +kernel
theorem dX9_mixBoard_133 : decode cX9_mixBoard 133 = .ok (.iconst 0, 1) := by decide +kernel
theorem dX9_mixBoard_134 : decode cX9_mixBoard 134 = .ok (.istore_n 1, 1) := by decide +kernel
theorem dX9_mixBoard_135 : decode cX9_mixBoard 135 = .ok (.iload_n 1, 1) := by decide +kernel
theorem dX9_mixBoard_136 : decode cX9_mixBoard 136 = .ok (.bipush 6, 2) := by decide +kernel
theorem dX9_mixBoard_138 : decode cX9_mixBoard 138 = .ok (.if_icmp .ge 19, 3) := by decide +kernel
theorem dX9_mixBoard_141 : decode cX9_mixBoard 141 = .ok (.aload_n 0, 1) := by decide +kernel
theorem dX9_mixBoard_142 : decode cX9_mixBoard 142 = .ok (.aload_n 0, 1) := by decide +kernel
theorem dX9_mixBoard_143 : decode cX9_mixBoard 143 = .ok (.iload_n 1, 1) := by decide +kernel
theorem dX9_mixBoard_144 : decode cX9_mixBoard 144 = .ok (.invokevirtual 217, 3) := by decide +kernel
theorem dX9_mixBoard_147 : decode cX9_mixBoard 147 = .ok (.i2l, 1) := by decide +kernel
theorem dX9_mixBoard_148 : decode cX9_mixBoard 148 = .ok (.invokevirtual 319, 3) := by decide +kernel
theorem dX9_mixBoard_151 : decode cX9_mixBoard 151 = .ok (.iinc 1 1, 3) := by decide +kernel
theorem dX9_mixBoard_154 : decode cX9_mixBoard 154 = .ok (.goto (-19), 3) := by decide +kernel
theorem dX9_mixBoard_157 : decode cX9_mixBoard 157 = .ok (.aload_n 0, 1) := by decide +kernel
theorem dX9_mixBoard_158 : decode cX9_mixBoard 158 = .ok (.getfield 194, 3) := by decide +kernel
theorem dX9_mixBoard_161 : decode cX9_mixBoard 161 = .ok (.bipush 10, 2) := by decide +kernel
theorem dX9_mixBoard_163 : decode cX9_mixBoard 163 = .ok (.if_icmp .gt 12, 3) := by decide +kernel
theorem dX9_mixBoard_166 : decode cX9_mixBoard 166 = .ok (.aload_n 0, 1) := by decide +kernel
theorem dX9_mixBoard_167 : decode cX9_mixBoard 167 = .ok (.aload_n 0, 1) := by decide +kernel
theorem dX9_mixBoard_168 : decode cX9_mixBoard 168 = .ok (.invokevirtual 223, 3) := by decide +kernel
theorem dX9_mixBoard_171 : decode cX9_mixBoard 171 = .ok (.i2l, 1) := by decide +kernel
theorem dX9_mixBoard_172 : decode cX9_mixBoard 172 = .ok (.invokevirtual 319, 3) := by decide +kernel
theorem dX9_mixBoard_175 : decode cX9_mixBoard 175 = .ok (.return_, 1) := by decide +kernel
set_option maxRecDepth 20000 in
theorem ggX9_digest_X9_counted : GoodIn wsX9_digest wsX9_counted := goodIn_r _ [11, 12, 13, 4, 14, 15, 16, 17, 10, 18, 19, 20, 21, 22, 23, 24, 25, 26, 27, 28, 29, 30, 31, 32, 33, 34, 35, 36, 37, 38, 39, 40, 41, 42, 43, 44, 45, 46, 47, 48, 49, 50, 51, 52, 53, 54, 55, 56, 57, 58, 59, 60, 61, 62, 63, 64, 65, 66, 67, 68, 69, 70, 71, 72, 73, 74, 75, 76, 77, 78, 79, 80, 81, 82, 83, 84, 85, 86, 87, 88, 89, 90, 91, 92, 93, 94, 95, 96, 97, 98, 99, 100, 101, 102, 103, 104, 105, 106, 107, 108, 109, 110, 111, 112, 113, 114, 115, 116, 233, 234, 235, 236, 237, 238, 239, 240, 241, 242, 243, 244, 245, 246, 247, 248, 249, 250, 251, 252, 253, 254, 255, 256, 257] (by decide +kernel) (by decide +kernel)
set_option maxRecDepth 20000 in
theorem gX9_digest_X9_counted : GoodIn wsX9_digest (wsV RX9 179 RX9 yX9_counted wsX9_counted) := goodIn_app (goodIn_of _ (by decide +kernel)) ggX9_digest_X9_counted
set_option maxRecDepth 20000 in
theorem ggX9_digest_X9_mix : GoodIn wsX9_digest wsX9_mix := goodIn_r _ [120, 121, 3, 233, 234, 235, 236, 237, 238, 239, 240, 241, 242, 243, 244, 245, 246, 247, 248, 249, 250, 251, 252, 253, 254, 255, 256, 257] (by decide +kernel) (by decide +kernel)
set_option maxRecDepth 20000 in
theorem gX9_digest_X9_mix : GoodIn wsX9_digest (wsV RX9 319 RX9 yX9_mix wsX9_mix) := goodIn_app (goodIn_of _ (by decide +kernel)) ggX9_digest_X9_mix
set_option maxRecDepth 20000 in
theorem ggX9_digest_X9_scoreOf : GoodIn wsX9_digest wsX9_scoreOf := goodIn_r _ [125, 126, 33, 34, 35, 10, 36, 12, 13, 233, 234, 235, 236, 237, 238, 239, 240, 241, 242, 243, 244, 245, 246, 247, 248, 249, 250, 251, 252, 253, 254, 255, 256, 257] (by decide +kernel) (by decide +kernel)
set_option maxRecDepth 20000 in
theorem gX9_digest_X9_scoreOf : GoodIn wsX9_digest (wsV RX9 182 RX9 yX9_scoreOf wsX9_scoreOf) := goodIn_app (goodIn_of _ (by decide +kernel)) ggX9_digest_X9_scoreOf
set_option maxRecDepth 20000 in
theorem ggX9_digest_X9_mixBoard : GoodIn wsX9_digest wsX9_mixBoard := goodIn_r _ [130, 4, 131, 132, 126, 97, 96, 15, 16, 17, 10, 18, 13, 12, 19, 20, 21, 22, 53, 54, 55, 56, 26, 27, 28, 57, 58, 59, 60, 61, 62, 63, 64, 65, 66, 67, 68, 69, 70, 71, 72, 73, 74, 75, 76, 77, 78, 79, 37, 38, 39, 40, 41, 42, 43, 44, 45, 46, 47, 48, 80, 81, 82, 83, 117, 118, 119, 120, 121, 3, 92, 93, 94, 95, 98, 99, 100, 33, 34, 35, 36, 101, 102, 103, 104, 105, 106, 107, 108, 109, 110, 111, 112, 113, 114, 115, 116, 133, 134, 135, 136, 137, 138, 139, 140, 141, 142, 143, 144, 145, 146, 147, 148, 149, 150, 151, 152, 153, 154, 155, 156, 157, 158, 159, 160, 161, 233, 234, 235, 236, 237, 238, 239, 240, 241, 242, 243, 244, 245, 246, 247, 248, 249, 250, 251, 252, 253, 254, 255, 256, 257] (by decide +kernel) (by decide +kernel)
set_option maxRecDepth 20000 in
theorem gX9_digest_X9_mixBoard : GoodIn wsX9_digest (wsV RX9 324 RX9 yX9_mixBoard wsX9_mixBoard) := goodIn_app (goodIn_of _ (by decide +kernel)) ggX9_digest_X9_mixBoard
set_option maxRecDepth 20000 in
theorem ggX9_digest_X9_leastCode : GoodIn wsX9_digest wsX9_leastCode := goodIn_r _ [165, 166, 167, 168, 10, 169, 12, 13, 170, 171, 172, 173, 15, 16, 17, 18, 19, 20, 21, 22, 26, 27, 28, 174, 175, 176, 177, 69, 70, 71, 72, 65, 66, 67, 68, 73, 74, 75, 76, 45, 46, 47, 48, 233, 234, 235, 236, 237, 238, 239, 240, 241, 242, 243, 244, 245, 246, 247, 248, 249, 250, 251, 252, 253, 254, 255, 256, 257] (by decide +kernel) (by decide +kernel)
set_option maxRecDepth 20000 in
theorem gX9_digest_X9_leastCode : GoodIn wsX9_digest (wsV RX9 265 RX9 yX9_leastCode wsX9_leastCode) := goodIn_app (goodIn_of _ (by decide +kernel)) ggX9_digest_X9_leastCode
set_option maxRecDepth 20000 in
theorem ggX9_digest_X9_fixing : GoodIn wsX9_digest wsX9_fixing := goodIn_r _ [181, 4, 166, 167, 168, 10, 169, 12, 13, 170, 171, 172, 173, 15, 16, 17, 18, 19, 20, 21, 22, 26, 27, 28, 174, 175, 176, 177, 69, 70, 71, 72, 65, 66, 67, 68, 73, 74, 75, 76, 45, 46, 47, 48, 233, 234, 235, 236, 237, 238, 239, 240, 241, 242, 243, 244, 245, 246, 247, 248, 249, 250, 251, 252, 253, 254, 255, 256, 257] (by decide +kernel) (by decide +kernel)
set_option maxRecDepth 20000 in
theorem gX9_digest_X9_fixing : GoodIn wsX9_digest (wsV RX9 269 RX9 yX9_fixing wsX9_fixing) := goodIn_app (goodIn_of _ (by decide +kernel)) ggX9_digest_X9_fixing
set_option maxRecDepth 20000 in
theorem ggX9_digest_X9_choice : GoodIn wsX9_digest wsX9_choice := goodIn_r _ [185, 186, 187, 188, 10, 189, 88, 89, 90, 91, 15, 16, 17, 18, 13, 12, 19, 20, 21, 22, 53, 54, 55, 56, 26, 27, 28, 57, 58, 59, 60, 61, 62, 63, 64, 65, 66, 67, 68, 69, 70, 71, 72, 73, 74, 75, 76, 77, 78, 79, 37, 38, 39, 40, 41, 42, 43, 44, 45, 46, 47, 48, 80, 81, 82, 83, 190, 191, 192, 193, 84, 85, 86, 87, 194, 195, 196, 197, 23, 24, 25, 198, 199, 200, 201, 49, 50, 51, 52, 33, 34, 35, 36, 29, 30, 31, 32, 202, 203, 204, 205, 206, 207, 208, 209, 210, 211, 212, 213, 214, 215, 216, 217, 218, 219, 220, 221, 222, 223, 224, 225, 226, 227, 228, 233, 234, 235, 236, 237, 238, 239, 240, 241, 242, 243, 244, 245, 246, 247, 248, 249, 250, 251, 252, 253, 254, 255, 256, 257] (by decide +kernel) (by decide +kernel)
set_option maxRecDepth 20000 in
theorem gX9_digest_X9_choice : GoodIn wsX9_digest (wsV RX9 144 RX9 yX9_choice wsX9_choice) := goodIn_app (goodIn_of _ (by decide +kernel)) ggX9_digest_X9_choice
set_option maxRecDepth 20000 in
theorem ggX9_digest_X9_open : GoodIn wsX9_digest wsX9_open := goodIn_r _ [197, 15, 16, 17, 10, 18, 13, 12, 19, 20, 21, 22, 23, 24, 25, 26, 27, 28, 233, 234, 235, 236, 237, 238, 239, 240, 241, 242, 243, 244, 245, 246, 247, 248, 249, 250, 251, 252, 253, 254, 255, 256, 257] (by decide +kernel) (by decide +kernel)
set_option maxRecDepth 20000 in
theorem gX9_digest_X9_open : GoodIn wsX9_digest (wsV RX9 244 RX9 yX9_open wsX9_open) := goodIn_app (goodIn_of _ (by decide +kernel)) ggX9_digest_X9_open
set_option maxRecDepth 20000 in
theorem ggX9_digest_X9_outcomeNow : GoodIn wsX9_digest wsX9_outcomeNow := goodIn_r _ [232, 4, 216, 210, 212, 213, 214, 10, 215, 217, 218, 219, 220, 211, 15, 16, 17, 18, 13, 12, 19, 20, 21, 22, 26, 27, 28, 221, 222, 223, 224, 225, 226, 227, 228, 57, 58, 59, 60, 61, 62, 63, 64, 65, 66, 67, 68, 69, 70, 71, 72, 73, 74, 75, 76, 77, 78, 79, 37, 38, 39, 40, 41, 42, 43, 44, 45, 46, 47, 48, 233, 234, 235, 236, 237, 238, 239, 240, 241, 242, 243, 244, 245, 246, 247, 248, 249, 250, 251, 252, 253, 254, 255, 256, 257] (by decide +kernel) (by decide +kernel)
set_option maxRecDepth 20000 in
theorem gX9_digest_X9_outcomeNow : GoodIn wsX9_digest (wsV RX9 247 RX9 yX9_outcomeNow wsX9_outcomeNow) := goodIn_app (goodIn_of _ (by decide +kernel)) ggX9_digest_X9_outcomeNow
theorem dX9_digest_0 : decode cX9_digest 0 = .ok (.aload_n 0, 1) := by decide +kernel
theorem dX9_digest_1 : decode cX9_digest 1 = .ok (.iconst 0, 1) := by decide +kernel
theorem dX9_digest_2 : decode cX9_digest 2 = .ok (.putfield 59, 3) := by decide +kernel
theorem dX9_digest_5 : decode cX9_digest 5 = .ok (.aload_n 0, 1) := by decide +kernel
theorem dX9_digest_6 : decode cX9_digest 6 = .ok (.ldc2_w 322, 3) := by decide +kernel
theorem dX9_digest_9 : decode cX9_digest 9 = .ok (.putfield 316, 3) := by decide +kernel
theorem dX9_digest_12 : decode cX9_digest 12 = .ok (.iconst 0, 1) := by decide +kernel
theorem dX9_digest_13 : decode cX9_digest 13 = .ok (.istore_n 1, 1) := by decide +kernel
theorem dX9_digest_14 : decode cX9_digest 14 = .ok (.iload_n 1, 1) := by decide +kernel
theorem dX9_digest_15 : decode cX9_digest 15 = .ok (.bipush 11, 2) := by decide +kernel
theorem dX9_digest_17 : decode cX9_digest 17 = .ok (.if_icmp .ge 19, 3) := by decide +kernel
theorem dX9_digest_20 : decode cX9_digest 20 = .ok (.aload_n 0, 1) := by decide +kernel
theorem dX9_digest_21 : decode cX9_digest 21 = .ok (.aload_n 0, 1) := by decide +kernel
theorem dX9_digest_22 : decode cX9_digest 22 = .ok (.iload_n 1, 1) := by decide +kernel
theorem dX9_digest_23 : decode cX9_digest 23 = .ok (.invokevirtual 179, 3) := by decide +kernel
theorem dX9_digest_26 : decode cX9_digest 26 = .ok (.i2l, 1) := by decide +kernel
theorem dX9_digest_27 : decode cX9_digest 27 = .ok (.invokevirtual 319, 3) := by decide +kernel
theorem dX9_digest_30 : decode cX9_digest 30 = .ok (.iinc 1 1, 3) := by decide +kernel
theorem dX9_digest_33 : decode cX9_digest 33 = .ok (.goto (-19), 3) := by decide +kernel
theorem dX9_digest_36 : decode cX9_digest 36 = .ok (.aload_n 0, 1) := by decide +kernel
theorem dX9_digest_37 : decode cX9_digest 37 = .ok (.aload_n 0, 1) := by decide +kernel
theorem dX9_digest_38 : decode cX9_digest 38 = .ok (.iconst 0, 1) := by decide +kernel
theorem dX9_digest_39 : decode cX9_digest 39 = .ok (.invokevirtual 182, 3) := by decide +kernel
theorem dX9_digest_42 : decode cX9_digest 42 = .ok (.i2l, 1) := by decide +kernel
theorem dX9_digest_43 : decode cX9_digest 43 = .ok (.invokevirtual 319, 3) := by decide +kernel
theorem dX9_digest_46 : decode cX9_digest 46 = .ok (.aload_n 0, 1) := by decide +kernel
theorem dX9_digest_47 : decode cX9_digest 47 = .ok (.aload_n 0, 1) := by decide +kernel
theorem dX9_digest_48 : decode cX9_digest 48 = .ok (.iconst 1, 1) := by decide +kernel
theorem dX9_digest_49 : decode cX9_digest 49 = .ok (.invokevirtual 182, 3) := by decide +kernel
theorem dX9_digest_52 : decode cX9_digest 52 = .ok (.i2l, 1) := by decide +kernel
theorem dX9_digest_53 : decode cX9_digest 53 = .ok (.invokevirtual 319, 3) := by decide +kernel
theorem dX9_digest_56 : decode cX9_digest 56 = .ok (.aload_n 0, 1) := by decide +kernel
theorem dX9_digest_57 : decode cX9_digest 57 = .ok (.invokevirtual 324, 3) := by decide +kernel
theorem dX9_digest_60 : decode cX9_digest 60 = .ok (.aload_n 0, 1) := by decide +kernel
theorem dX9_digest_61 : decode cX9_digest 61 = .ok (.aload_n 0, 1) := by decide +kernel
theorem dX9_digest_62 : decode cX9_digest 62 = .ok (.aload_n 0, 1) := by decide +kernel
theorem dX9_digest_63 : decode cX9_digest 63 = .ok (.getfield 119, 3) := by decide +kernel
theorem dX9_digest_66 : decode cX9_digest 66 = .ok (.invokevirtual 265, 3) := by decide +kernel
theorem dX9_digest_69 : decode cX9_digest 69 = .ok (.invokevirtual 319, 3) := by decide +kernel
theorem dX9_digest_72 : decode cX9_digest 72 = .ok (.aload_n 0, 1) := by decide +kernel
theorem dX9_digest_73 : decode cX9_digest 73 = .ok (.aload_n 0, 1) := by decide +kernel
theorem dX9_digest_74 : decode cX9_digest 74 = .ok (.invokevirtual 269, 3) := by decide +kernel
theorem dX9_digest_77 : decode cX9_digest 77 = .ok (.i2l, 1) := by decide +kernel
theorem dX9_digest_78 : decode cX9_digest 78 = .ok (.invokevirtual 319, 3) := by decide +kernel
theorem dX9_digest_81 : decode cX9_digest 81 = .ok (.aload_n 0, 1) := by decide +kernel
theorem dX9_digest_82 : decode cX9_digest 82 = .ok (.aload_n 0, 1) := by decide +kernel
theorem dX9_digest_83 : decode cX9_digest 83 = .ok (.iconst 0, 1) := by decide +kernel
theorem dX9_digest_84 : decode cX9_digest 84 = .ok (.aload_n 0, 1) := by decide +kernel
theorem dX9_digest_85 : decode cX9_digest 85 = .ok (.getfield 119, 3) := by decide +kernel
theorem dX9_digest_88 : decode cX9_digest 88 = .ok (.invokevirtual 144, 3) := by decide +kernel
theorem dX9_digest_91 : decode cX9_digest 91 = .ok (.i2l, 1) := by decide +kernel
theorem dX9_digest_92 : decode cX9_digest 92 = .ok (.invokevirtual 319, 3) := by decide +kernel
theorem dX9_digest_95 : decode cX9_digest 95 = .ok (.aload_n 0, 1) := by decide +kernel
theorem dX9_digest_96 : decode cX9_digest 96 = .ok (.aload_n 0, 1) := by decide +kernel
theorem dX9_digest_97 : decode cX9_digest 97 = .ok (.iconst 1, 1) := by decide +kernel
theorem dX9_digest_98 : decode cX9_digest 98 = .ok (.aload_n 0, 1) := by decide +kernel
theorem dX9_digest_99 : decode cX9_digest 99 = .ok (.getfield 119, 3) := by decide +kernel
theorem dX9_digest_102 : decode cX9_digest 102 = .ok (.invokevirtual 144, 3) := by decide +kernel
theorem dX9_digest_105 : decode cX9_digest 105 = .ok (.i2l, 1) := by decide +kernel
theorem dX9_digest_106 : decode cX9_digest 106 = .ok (.invokevirtual 319, 3) := by decide +kernel
theorem dX9_digest_109 : decode cX9_digest 109 = .ok (.aload_n 0, 1) := by decide +kernel
theorem dX9_digest_110 : decode cX9_digest 110 = .ok (.aload_n 0, 1) := by decide +kernel
theorem dX9_digest_111 : decode cX9_digest 111 = .ok (.getfield 119, 3) := by decide +kernel
theorem dX9_digest_114 : decode cX9_digest 114 = .ok (.invokevirtual 244, 3) := by decide +kernel
theorem dX9_digest_117 : decode cX9_digest 117 = .ok (.bipush 8, 2) := by decide +kernel
theorem dX9_digest_119 : decode cX9_digest 119 = .ok (.if_icmp .gt 12, 3) := by decide +kernel
theorem dX9_digest_122 : decode cX9_digest 122 = .ok (.aload_n 0, 1) := by decide +kernel
theorem dX9_digest_123 : decode cX9_digest 123 = .ok (.aload_n 0, 1) := by decide +kernel
theorem dX9_digest_124 : decode cX9_digest 124 = .ok (.invokevirtual 247, 3) := by decide +kernel
theorem dX9_digest_127 : decode cX9_digest 127 = .ok (.i2l, 1) := by decide +kernel
theorem dX9_digest_128 : decode cX9_digest 128 = .ok (.invokevirtual 319, 3) := by decide +kernel
theorem dX9_digest_131 : decode cX9_digest 131 = .ok (.aload_n 0, 1) := by decide +kernel
theorem dX9_digest_132 : decode cX9_digest 132 = .ok (.aload_n 0, 1) := by decide +kernel
theorem dX9_digest_133 : decode cX9_digest 133 = .ok (.getfield 147, 3) := by decide +kernel
theorem dX9_digest_136 : decode cX9_digest 136 = .ok (.i2l, 1) := by decide +kernel
theorem dX9_digest_137 : decode cX9_digest 137 = .ok (.invokevirtual 319, 3) := by decide +kernel
theorem dX9_digest_140 : decode cX9_digest 140 = .ok (.iconst 0, 1) := by decide +kernel
theorem dX9_digest_141 : decode cX9_digest 141 = .ok (.istore_n 1, 1) := by decide +kernel
theorem dX9_digest_142 : decode cX9_digest 142 = .ok (.iload_n 1, 1) := by decide +kernel
theorem dX9_digest_143 : decode cX9_digest 143 = .ok (.aload_n 0, 1) := by decide +kernel
theorem dX9_digest_144 : decode cX9_digest 144 = .ok (.getfield 147, 3) := by decide +kernel
theorem dX9_digest_147 : decode cX9_digest 147 = .ok (.if_icmp .ge 20, 3) := by decide +kernel
theorem dX9_digest_150 : decode cX9_digest 150 = .ok (.aload_n 0, 1) := by decide +kernel
theorem dX9_digest_151 : decode cX9_digest 151 = .ok (.aload_n 0, 1) := by decide +kernel
theorem dX9_digest_152 : decode cX9_digest 152 = .ok (.getfield 26, 3) := by decide +kernel
theorem dX9_digest_155 : decode cX9_digest 155 = .ok (.iload_n 1, 1) := by decide +kernel
theorem dX9_digest_156 : decode cX9_digest 156 = .ok (.iaload, 1) := by decide +kernel
theorem dX9_digest_157 : decode cX9_digest 157 = .ok (.i2l, 1) := by decide +kernel
theorem dX9_digest_158 : decode cX9_digest 158 = .ok (.invokevirtual 319, 3) := by decide +kernel
theorem dX9_digest_161 : decode cX9_digest 161 = .ok (.iinc 1 1, 3) := by decide +kernel
theorem dX9_digest_164 : decode cX9_digest 164 = .ok (.goto (-22), 3) := by decide +kernel
theorem dX9_digest_167 : decode cX9_digest 167 = .ok (.aload_n 0, 1) := by decide +kernel
theorem dX9_digest_168 : decode cX9_digest 168 = .ok (.getfield 316, 3) := by decide +kernel
theorem dX9_digest_171 : decode cX9_digest 171 = .ok (.lreturn, 1) := by decide +kernel
