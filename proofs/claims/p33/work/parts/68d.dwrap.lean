theorem dL_turned_107 : decode cL_turned 107 = .ok (.iload_n 2, 1) := by decide +kernel
theorem dL_turned_108 : decode cL_turned 108 = .ok (.iconst 2, 1) := by decide +kernel
theorem dL_turned_109 : decode cL_turned 109 = .ok (.iand, 1) := by decide +kernel
theorem dL_turned_110 : decode cL_turned 110 = .ok (.iconst 2, 1) := by decide +kernel
theorem dL_turned_111 : decode cL_turned 111 = .ok (.if_icmp .ne 23, 3) := by decide +kernel
theorem dL_turned_114 : decode cL_turned 114 = .ok (.iload_n 3, 1) := by decide +kernel
theorem dL_turned_115 : decode cL_turned 115 = .ok (.ifCond .eq 11, 3) := by decide +kernel
theorem dL_turned_118 : decode cL_turned 118 = .ok (.aload_n 0, 1) := by decide +kernel
theorem dL_turned_119 : decode cL_turned 119 = .ok (.iconst 1, 1) := by decide +kernel
theorem dL_turned_120 : decode cL_turned 120 = .ok (.iaload, 1) := by decide +kernel
theorem dL_turned_121 : decode cL_turned 121 = .ok (.iconst 1, 1) := by decide +kernel
theorem dL_turned_122 : decode cL_turned 122 = .ok (.isub, 1) := by decide +kernel
theorem dL_turned_123 : decode cL_turned 123 = .ok (.goto 6, 3) := by decide +kernel
theorem dL_turned_126 : decode cL_turned 126 = .ok (.aload_n 0, 1) := by decide +kernel
theorem dL_turned_127 : decode cL_turned 127 = .ok (.iconst 1, 1) := by decide +kernel
theorem dL_turned_128 : decode cL_turned 128 = .ok (.iaload, 1) := by decide +kernel
theorem dL_turned_129 : decode cL_turned 129 = .ok (.iload 6, 2) := by decide +kernel
theorem dL_turned_131 : decode cL_turned 131 = .ok (.isub, 1) := by decide +kernel
theorem dL_turned_132 : decode cL_turned 132 = .ok (.istore 6, 2) := by decide +kernel
theorem dL_turned_134 : decode cL_turned 134 = .ok (.iload_n 2, 1) := by decide +kernel
theorem dL_turned_135 : decode cL_turned 135 = .ok (.iconst 4, 1) := by decide +kernel
theorem dL_turned_136 : decode cL_turned 136 = .ok (.iand, 1) := by decide +kernel
theorem dL_turned_137 : decode cL_turned 137 = .ok (.iconst 4, 1) := by decide +kernel
theorem dL_turned_138 : decode cL_turned 138 = .ok (.if_icmp .ne 27, 3) := by decide +kernel
theorem dL_turned_141 : decode cL_turned 141 = .ok (.iload_n 3, 1) := by decide +kernel
theorem dL_turned_142 : decode cL_turned 142 = .ok (.ifCond .eq 14, 3) := by decide +kernel
theorem dL_turned_145 : decode cL_turned 145 = .ok (.aload_n 0, 1) := by decide +kernel
theorem dL_turned_146 : decode cL_turned 146 = .ok (.iload 6, 2) := by decide +kernel
theorem dL_turned_148 : decode cL_turned 148 = .ok (.iload 5, 2) := by decide +kernel
theorem dL_turned_150 : decode cL_turned 150 = .ok (.invokestatic 8, 3) := by decide +kernel
theorem dL_turned_153 : decode cL_turned 153 = .ok (.goto 11, 3) := by decide +kernel
theorem dL_turned_156 : decode cL_turned 156 = .ok (.aload_n 0, 1) := by decide +kernel
theorem dL_turned_157 : decode cL_turned 157 = .ok (.iload 6, 2) := by decide +kernel
theorem dL_turned_159 : decode cL_turned 159 = .ok (.iload 5, 2) := by decide +kernel
theorem dL_turned_161 : decode cL_turned 161 = .ok (.invokestatic 18, 3) := by decide +kernel
theorem dL_turned_164 : decode cL_turned 164 = .ok (.ireturn, 1) := by decide +kernel
theorem dL_turned_165 : decode cL_turned 165 = .ok (.iload_n 3, 1) := by decide +kernel
theorem dL_turned_166 : decode cL_turned 166 = .ok (.ifCond .eq 14, 3) := by decide +kernel
theorem dL_turned_169 : decode cL_turned 169 = .ok (.aload_n 0, 1) := by decide +kernel
theorem dL_turned_170 : decode cL_turned 170 = .ok (.iload 5, 2) := by decide +kernel
theorem dL_turned_172 : decode cL_turned 172 = .ok (.iload 6, 2) := by decide +kernel
theorem dL_turned_174 : decode cL_turned 174 = .ok (.invokestatic 18, 3) := by decide +kernel
theorem dL_turned_177 : decode cL_turned 177 = .ok (.goto 11, 3) := by decide +kernel
theorem dL_turned_180 : decode cL_turned 180 = .ok (.aload_n 0, 1) := by decide +kernel
theorem dL_turned_181 : decode cL_turned 181 = .ok (.iload 5, 2) := by decide +kernel
theorem dL_turned_183 : decode cL_turned 183 = .ok (.iload 6, 2) := by decide +kernel
theorem dL_turned_185 : decode cL_turned 185 = .ok (.invokestatic 8, 3) := by decide +kernel
theorem dL_turned_188 : decode cL_turned 188 = .ok (.ireturn, 1) := by decide +kernel
set_option maxRecDepth 20000 in
theorem ggL_image_L_lines : GoodIn wsL_image wsL_lines := goodIn_r _ [4] (by decide +kernel) (by decide +kernel)
set_option maxRecDepth 20000 in
theorem gL_image_L_lines : GoodIn wsL_image (va_wsS RL 31 yL_lines wsL_lines) := goodIn_app (goodIn_of _ (by decide +kernel)) ggL_image_L_lines
set_option maxRecDepth 20000 in
theorem ggL_image_L_has : GoodIn wsL_image wsL_has := goodIn_r _ [7] (by decide +kernel) (by decide +kernel)
set_option maxRecDepth 20000 in
theorem gL_image_L_has : GoodIn wsL_image (va_wsS RL 14 yL_has wsL_has) := goodIn_app (goodIn_of _ (by decide +kernel)) ggL_image_L_has
set_option maxRecDepth 20000 in
theorem ggL_image_L_turned : GoodIn wsL_image wsL_turned := goodIn_r _ [10, 11, 12, 3, 13, 14, 15, 16] (by decide +kernel) (by decide +kernel)
set_option maxRecDepth 20000 in
theorem gL_image_L_turned : GoodIn wsL_image (va_wsS RL 86 yL_turned wsL_turned) := goodIn_app (goodIn_of _ (by decide +kernel)) ggL_image_L_turned
theorem dL_image_0 : decode cL_image 0 = .ok (.lconst 0, 1) := by decide +kernel
theorem dL_image_1 : decode cL_image 1 = .ok (.lstore 4, 2) := by decide +kernel
theorem dL_image_3 : decode cL_image 3 = .ok (.iconst 0, 1) := by decide +kernel
theorem dL_image_4 : decode cL_image 4 = .ok (.istore 6, 2) := by decide +kernel
theorem dL_image_6 : decode cL_image 6 = .ok (.iload 6, 2) := by decide +kernel
theorem dL_image_8 : decode cL_image 8 = .ok (.aload_n 0, 1) := by decide +kernel
theorem dL_image_9 : decode cL_image 9 = .ok (.invokestatic 31, 3) := by decide +kernel
theorem dL_image_12 : decode cL_image 12 = .ok (.if_icmp .ge 32, 3) := by decide +kernel
theorem dL_image_15 : decode cL_image 15 = .ok (.lload_n 1, 1) := by decide +kernel
theorem dL_image_16 : decode cL_image 16 = .ok (.iload 6, 2) := by decide +kernel
theorem dL_image_18 : decode cL_image 18 = .ok (.invokestatic 14, 3) := by decide +kernel
theorem dL_image_21 : decode cL_image 21 = .ok (.ifCond .eq 17, 3) := by decide +kernel
theorem dL_image_24 : decode cL_image 24 = .ok (.lload 4, 2) := by decide +kernel
theorem dL_image_26 : decode cL_image 26 = .ok (.lconst 1, 1) := by decide +kernel
theorem dL_image_27 : decode cL_image 27 = .ok (.aload_n 0, 1) := by decide +kernel
theorem dL_image_28 : decode cL_image 28 = .ok (.iload 6, 2) := by decide +kernel
theorem dL_image_30 : decode cL_image 30 = .ok (.iload_n 3, 1) := by decide +kernel
theorem dL_image_31 : decode cL_image 31 = .ok (.invokestatic 86, 3) := by decide +kernel
theorem dL_image_34 : decode cL_image 34 = .ok (.lshl, 1) := by decide +kernel
theorem dL_image_35 : decode cL_image 35 = .ok (.lor, 1) := by decide +kernel
theorem dL_image_36 : decode cL_image 36 = .ok (.lstore 4, 2) := by decide +kernel
theorem dL_image_38 : decode cL_image 38 = .ok (.iinc 6 1, 3) := by decide +kernel
theorem dL_image_41 : decode cL_image 41 = .ok (.goto (-35), 3) := by decide +kernel
theorem dL_image_44 : decode cL_image 44 = .ok (.lload 4, 2) := by decide +kernel
theorem dL_image_46 : decode cL_image 46 = .ok (.lreturn, 1) := by decide +kernel
set_option maxRecDepth 20000 in
theorem ggL_canonical_L_image : GoodIn wsL_canonical wsL_image := goodIn_r _ [4, 5, 6, 3, 7, 8, 9, 10, 11, 12, 13, 14, 15, 16, 17, 18, 19] (by decide +kernel) (by decide +kernel)
set_option maxRecDepth 20000 in
theorem gL_canonical_L_image : GoodIn wsL_canonical (va_wsS RL 89 yL_image wsL_image) := goodIn_app (goodIn_of _ (by decide +kernel)) ggL_canonical_L_image
theorem dL_canonical_0 : decode cL_canonical 0 = .ok (.lload_n 1, 1) := by decide +kernel
theorem dL_canonical_1 : decode cL_canonical 1 = .ok (.lstore_n 3, 1) := by decide +kernel
theorem dL_canonical_2 : decode cL_canonical 2 = .ok (.iconst 1, 1) := by decide +kernel
theorem dL_canonical_3 : decode cL_canonical 3 = .ok (.istore 5, 2) := by decide +kernel
theorem dL_canonical_5 : decode cL_canonical 5 = .ok (.iload 5, 2) := by decide +kernel
theorem dL_canonical_7 : decode cL_canonical 7 = .ok (.aload_n 0, 1) := by decide +kernel
theorem dL_canonical_8 : decode cL_canonical 8 = .ok (.iconst 0, 1) := by decide +kernel
theorem dL_canonical_9 : decode cL_canonical 9 = .ok (.iaload, 1) := by decide +kernel
theorem dL_canonical_10 : decode cL_canonical 10 = .ok (.aload_n 0, 1) := by decide +kernel
theorem dL_canonical_11 : decode cL_canonical 11 = .ok (.iconst 1, 1) := by decide +kernel
theorem dL_canonical_12 : decode cL_canonical 12 = .ok (.iaload, 1) := by decide +kernel
theorem dL_canonical_13 : decode cL_canonical 13 = .ok (.if_icmp .ne 8, 3) := by decide +kernel
theorem dL_canonical_16 : decode cL_canonical 16 = .ok (.bipush 8, 2) := by decide +kernel
theorem dL_canonical_18 : decode cL_canonical 18 = .ok (.goto 4, 3) := by decide +kernel
theorem dL_canonical_21 : decode cL_canonical 21 = .ok (.iconst 4, 1) := by decide +kernel
theorem dL_canonical_22 : decode cL_canonical 22 = .ok (.if_icmp .ge 28, 3) := by decide +kernel
theorem dL_canonical_25 : decode cL_canonical 25 = .ok (.aload_n 0, 1) := by decide +kernel
theorem dL_canonical_26 : decode cL_canonical 26 = .ok (.lload_n 1, 1) := by decide +kernel
theorem dL_canonical_27 : decode cL_canonical 27 = .ok (.iload 5, 2) := by decide +kernel
theorem dL_canonical_29 : decode cL_canonical 29 = .ok (.invokestatic 89, 3) := by decide +kernel
theorem dL_canonical_32 : decode cL_canonical 32 = .ok (.lstore 6, 2) := by decide +kernel
theorem dL_canonical_34 : decode cL_canonical 34 = .ok (.lload 6, 2) := by decide +kernel
theorem dL_canonical_36 : decode cL_canonical 36 = .ok (.lload_n 3, 1) := by decide +kernel
theorem dL_canonical_37 : decode cL_canonical 37 = .ok (.lcmp, 1) := by decide +kernel
theorem dL_canonical_38 : decode cL_canonical 38 = .ok (.ifCond .ge 6, 3) := by decide +kernel
theorem dL_canonical_41 : decode cL_canonical 41 = .ok (.lload 6, 2) := by decide +kernel
theorem dL_canonical_43 : decode cL_canonical 43 = .ok (.lstore_n 3, 1) := by decide +kernel
theorem dL_canonical_44 : decode cL_canonical 44 = .ok (.iinc 5 1, 3) := by decide +kernel
theorem dL_canonical_47 : decode cL_canonical 47 = .ok (.goto (-42), 3) := by decide +kernel
theorem dL_canonical_50 : decode cL_canonical 50 = .ok (.lload_n 3, 1) := by decide +kernel
theorem dL_canonical_51 : decode cL_canonical 51 = .ok (.lreturn, 1) := by decide +kernel
set_option maxRecDepth 20000 in
theorem ggL_symmetric_L_image : GoodIn wsL_symmetric wsL_image := goodIn_r _ [5, 6, 7, 4, 8, 9, 10, 11, 12, 13, 14, 15, 16, 17, 18, 19, 20] (by decide +kernel) (by decide +kernel)
set_option maxRecDepth 20000 in
theorem gL_symmetric_L_image : GoodIn wsL_symmetric (va_wsS RL 89 yL_image wsL_image) := goodIn_app (goodIn_of _ (by decide +kernel)) ggL_symmetric_L_image
set_option maxRecDepth 20000 in
theorem ggL_symmetric_L_lines : GoodIn wsL_symmetric wsL_lines := goodIn_r _ [8] (by decide +kernel) (by decide +kernel)
set_option maxRecDepth 20000 in
theorem gL_symmetric_L_lines : GoodIn wsL_symmetric (va_wsS RL 31 yL_lines wsL_lines) := goodIn_app (goodIn_of _ (by decide +kernel)) ggL_symmetric_L_lines
set_option maxRecDepth 20000 in
theorem ggL_symmetric_L_has : GoodIn wsL_symmetric wsL_has := goodIn_r _ [11] (by decide +kernel) (by decide +kernel)
set_option maxRecDepth 20000 in
theorem gL_symmetric_L_has : GoodIn wsL_symmetric (va_wsS RL 14 yL_has wsL_has) := goodIn_app (goodIn_of _ (by decide +kernel)) ggL_symmetric_L_has
set_option maxRecDepth 20000 in
theorem ggL_symmetric_L_canonical : GoodIn wsL_symmetric wsL_canonical := goodIn_r _ [23, 2, 3, 4, 5, 6, 7, 8, 9, 10, 11, 12, 13, 14, 15, 16, 17, 18, 19, 20] (by decide +kernel) (by decide +kernel)
set_option maxRecDepth 20000 in
theorem gL_symmetric_L_canonical : GoodIn wsL_symmetric (va_wsS RL 93 yL_canonical wsL_canonical) := goodIn_app (goodIn_of _ (by decide +kernel)) ggL_symmetric_L_canonical
set_option maxRecDepth 20000 in
theorem ggL_symmetric_X8_canonical : GoodIn wsL_symmetric wsX8_canonical := goodIn_r _ [28, 29, 30, 31, 32, 33, 34, 35, 36, 37, 38, 39, 40, 41, 42, 43, 44, 45, 46, 47, 48, 49, 27, 50, 51, 52, 53, 54, 55, 56, 57, 58, 59, 60, 61, 62, 63, 64, 65, 66, 67, 68, 69, 70, 71, 72, 98, 99, 100, 101, 102, 103, 104, 105, 106, 107, 108, 109, 110, 111, 112, 113, 114, 115, 116, 117, 118, 119, 120, 121, 122, 123] (by decide +kernel) (by decide +kernel)
set_option maxRecDepth 20000 in
theorem gL_symmetric_X8_canonical : GoodIn wsL_symmetric (wsV RL 97 RX8 yX8_canonical wsX8_canonical) := goodIn_app (goodIn_of _ (by decide +kernel)) ggL_symmetric_X8_canonical
set_option maxRecDepth 20000 in
theorem ggL_symmetric_X8_symmetries : GoodIn wsL_symmetric wsX8_symmetries := goodIn_r _ [76, 29, 30, 31, 77, 78, 79, 35, 80, 37, 42, 43, 44, 45, 46, 47, 48, 49, 27, 50, 51, 52, 53, 54, 55, 56, 57, 58, 59, 60, 61, 62, 63, 64, 65, 66, 67, 68, 69, 70, 71, 72, 98, 99, 100, 101, 102, 103, 104, 105, 106, 107, 108, 109, 110, 111, 112, 113, 114, 115, 116, 117, 118, 119, 120, 121, 122, 123] (by decide +kernel) (by decide +kernel)
set_option maxRecDepth 20000 in
theorem gL_symmetric_X8_symmetries : GoodIn wsL_symmetric (wsV RL 100 RX8 yX8_symmetries wsX8_symmetries) := goodIn_app (goodIn_of _ (by decide +kernel)) ggL_symmetric_X8_symmetries
set_option maxRecDepth 20000 in
theorem ggL_symmetric_X8_followers : GoodIn wsL_symmetric wsX8_followers := goodIn_r _ [84, 29, 30, 31, 85, 86, 87, 35, 88, 46, 47, 89, 42, 43, 44, 45, 37, 48, 49, 27, 50, 51, 52, 53, 54, 55, 56, 57, 58, 59, 60, 61, 62, 63, 64, 65, 90, 91, 92, 93, 38, 39, 40, 41, 66, 67, 68, 69, 70, 71, 72, 94, 95, 96, 97, 98, 99, 100, 101, 102, 103, 104, 105, 106, 107, 108, 109, 110, 111, 112, 113, 114, 115, 116, 117, 118, 119, 120, 121, 122, 123] (by decide +kernel) (by decide +kernel)
set_option maxRecDepth 20000 in
theorem gL_symmetric_X8_followers : GoodIn wsL_symmetric (wsV RL 103 RX8 yX8_followers wsX8_followers) := goodIn_app (goodIn_of _ (by decide +kernel)) ggL_symmetric_X8_followers
theorem dL_symmetric_0 : decode cL_symmetric 0 = .ok (.iconst 0, 1) := by decide +kernel
theorem dL_symmetric_1 : decode cL_symmetric 1 = .ok (.istore 4, 2) := by decide +kernel
theorem dL_symmetric_3 : decode cL_symmetric 3 = .ok (.iconst 0, 1) := by decide +kernel
theorem dL_symmetric_4 : decode cL_symmetric 4 = .ok (.istore 5, 2) := by decide +kernel
theorem dL_symmetric_6 : decode cL_symmetric 6 = .ok (.iload 5, 2) := by decide +kernel
theorem dL_symmetric_8 : decode cL_symmetric 8 = .ok (.aload_n 1, 1) := by decide +kernel
theorem dL_symmetric_9 : decode cL_symmetric 9 = .ok (.iconst 0, 1) := by decide +kernel
theorem dL_symmetric_10 : decode cL_symmetric 10 = .ok (.iaload, 1) := by decide +kernel
theorem dL_symmetric_11 : decode cL_symmetric 11 = .ok (.aload_n 1, 1) := by decide +kernel
theorem dL_symmetric_12 : decode cL_symmetric 12 = .ok (.iconst 1, 1) := by decide +kernel
theorem dL_symmetric_13 : decode cL_symmetric 13 = .ok (.iaload, 1) := by decide +kernel
theorem dL_symmetric_14 : decode cL_symmetric 14 = .ok (.if_icmp .ne 8, 3) := by decide +kernel
theorem dL_symmetric_17 : decode cL_symmetric 17 = .ok (.bipush 8, 2) := by decide +kernel
theorem dL_symmetric_19 : decode cL_symmetric 19 = .ok (.goto 4, 3) := by decide +kernel
theorem dL_symmetric_22 : decode cL_symmetric 22 = .ok (.iconst 4, 1) := by decide +kernel
theorem dL_symmetric_23 : decode cL_symmetric 23 = .ok (.if_icmp .ge 24, 3) := by decide +kernel
theorem dL_symmetric_26 : decode cL_symmetric 26 = .ok (.aload_n 1, 1) := by decide +kernel
theorem dL_symmetric_27 : decode cL_symmetric 27 = .ok (.lload_n 2, 1) := by decide +kernel
theorem dL_symmetric_28 : decode cL_symmetric 28 = .ok (.iload 5, 2) := by decide +kernel
theorem dL_symmetric_30 : decode cL_symmetric 30 = .ok (.invokestatic 89, 3) := by decide +kernel
theorem dL_symmetric_33 : decode cL_symmetric 33 = .ok (.lload_n 2, 1) := by decide +kernel
theorem dL_symmetric_34 : decode cL_symmetric 34 = .ok (.lcmp, 1) := by decide +kernel
theorem dL_symmetric_35 : decode cL_symmetric 35 = .ok (.ifCond .ne 6, 3) := by decide +kernel
theorem dL_symmetric_38 : decode cL_symmetric 38 = .ok (.iinc 4 1, 3) := by decide +kernel
theorem dL_symmetric_41 : decode cL_symmetric 41 = .ok (.iinc 5 1, 3) := by decide +kernel
theorem dL_symmetric_44 : decode cL_symmetric 44 = .ok (.goto (-38), 3) := by decide +kernel
theorem dL_symmetric_47 : decode cL_symmetric 47 = .ok (.bipush 40, 2) := by decide +kernel
theorem dL_symmetric_49 : decode cL_symmetric 49 = .ok (.newarray .long, 2) := by decide +kernel
theorem dL_symmetric_51 : decode cL_symmetric 51 = .ok (.astore 5, 2) := by decide +kernel
theorem dL_symmetric_53 : decode cL_symmetric 53 = .ok (.iconst 0, 1) := by decide +kernel
theorem dL_symmetric_54 : decode cL_symmetric 54 = .ok (.istore 6, 2) := by decide +kernel
theorem dL_symmetric_56 : decode cL_symmetric 56 = .ok (.iconst 0, 1) := by decide +kernel
theorem dL_symmetric_57 : decode cL_symmetric 57 = .ok (.istore 7, 2) := by decide +kernel
theorem dL_symmetric_59 : decode cL_symmetric 59 = .ok (.iload 7, 2) := by decide +kernel
theorem dL_symmetric_61 : decode cL_symmetric 61 = .ok (.aload_n 1, 1) := by decide +kernel
theorem dL_symmetric_62 : decode cL_symmetric 62 = .ok (.invokestatic 31, 3) := by decide +kernel
theorem dL_symmetric_65 : decode cL_symmetric 65 = .ok (.if_icmp .ge 81, 3) := by decide +kernel
theorem dL_symmetric_68 : decode cL_symmetric 68 = .ok (.lload_n 2, 1) := by decide +kernel
theorem dL_symmetric_69 : decode cL_symmetric 69 = .ok (.iload 7, 2) := by decide +kernel
theorem dL_symmetric_71 : decode cL_symmetric 71 = .ok (.invokestatic 14, 3) := by decide +kernel
theorem dL_symmetric_74 : decode cL_symmetric 74 = .ok (.ifCond .eq 6, 3) := by decide +kernel
theorem dL_symmetric_77 : decode cL_symmetric 77 = .ok (.goto 63, 3) := by decide +kernel
theorem dL_symmetric_80 : decode cL_symmetric 80 = .ok (.aload_n 1, 1) := by decide +kernel
theorem dL_symmetric_81 : decode cL_symmetric 81 = .ok (.lload_n 2, 1) := by decide +kernel
theorem dL_symmetric_82 : decode cL_symmetric 82 = .ok (.lconst 1, 1) := by decide +kernel
theorem dL_symmetric_83 : decode cL_symmetric 83 = .ok (.iload 7, 2) := by decide +kernel
theorem dL_symmetric_85 : decode cL_symmetric 85 = .ok (.lshl, 1) := by decide +kernel
theorem dL_symmetric_86 : decode cL_symmetric 86 = .ok (.lor, 1) := by decide +kernel
theorem dL_symmetric_87 : decode cL_symmetric 87 = .ok (.invokestatic 93, 3) := by decide +kernel
theorem dL_symmetric_90 : decode cL_symmetric 90 = .ok (.lstore 8, 2) := by decide +kernel
theorem dL_symmetric_92 : decode cL_symmetric 92 = .ok (.iconst 1, 1) := by decide +kernel
theorem dL_symmetric_93 : decode cL_symmetric 93 = .ok (.istore 10, 2) := by decide +kernel
theorem dL_symmetric_95 : decode cL_symmetric 95 = .ok (.iconst 0, 1) := by decide +kernel
theorem dL_symmetric_96 : decode cL_symmetric 96 = .ok (.istore 11, 2) := by decide +kernel
theorem dL_symmetric_98 : decode cL_symmetric 98 = .ok (.iload 11, 2) := by decide +kernel
theorem dL_symmetric_100 : decode cL_symmetric 100 = .ok (.iload 6, 2) := by decide +kernel
theorem dL_symmetric_102 : decode cL_symmetric 102 = .ok (.if_icmp .ge 23, 3) := by decide +kernel
theorem dL_symmetric_105 : decode cL_symmetric 105 = .ok (.aload 5, 2) := by decide +kernel
theorem dL_symmetric_107 : decode cL_symmetric 107 = .ok (.iload 11, 2) := by decide +kernel
theorem dL_symmetric_109 : decode cL_symmetric 109 = .ok (.laload, 1) := by decide +kernel
theorem dL_symmetric_110 : decode cL_symmetric 110 = .ok (.lload 8, 2) := by decide +kernel
theorem dL_symmetric_112 : decode cL_symmetric 112 = .ok (.lcmp, 1) := by decide +kernel
theorem dL_symmetric_113 : decode cL_symmetric 113 = .ok (.ifCond .ne 6, 3) := by decide +kernel
theorem dL_symmetric_116 : decode cL_symmetric 116 = .ok (.iconst 0, 1) := by decide +kernel
theorem dL_symmetric_117 : decode cL_symmetric 117 = .ok (.istore 10, 2) := by decide +kernel
theorem dL_symmetric_119 : decode cL_symmetric 119 = .ok (.iinc 11 1, 3) := by decide +kernel
theorem dL_symmetric_122 : decode cL_symmetric 122 = .ok (.goto (-24), 3) := by decide +kernel
theorem dL_symmetric_125 : decode cL_symmetric 125 = .ok (.iload 10, 2) := by decide +kernel
theorem dL_symmetric_127 : decode cL_symmetric 127 = .ok (.ifCond .eq 13, 3) := by decide +kernel
theorem dL_symmetric_130 : decode cL_symmetric 130 = .ok (.aload 5, 2) := by decide +kernel
theorem dL_symmetric_132 : decode cL_symmetric 132 = .ok (.iload 6, 2) := by decide +kernel
theorem dL_symmetric_134 : decode cL_symmetric 134 = .ok (.iinc 6 1, 3) := by decide +kernel
theorem dL_symmetric_137 : decode cL_symmetric 137 = .ok (.lload 8, 2) := by decide +kernel
theorem dL_symmetric_139 : decode cL_symmetric 139 = .ok (.lastore, 1) := by decide +kernel
theorem dL_symmetric_140 : decode cL_symmetric 140 = .ok (.iinc 7 1, 3) := by decide +kernel
theorem dL_symmetric_143 : decode cL_symmetric 143 = .ok (.goto (-84), 3) := by decide +kernel
theorem dL_symmetric_146 : decode cL_symmetric 146 = .ok (.aload_n 0, 1) := by decide +kernel
theorem dL_symmetric_147 : decode cL_symmetric 147 = .ok (.invokevirtual 97, 3) := by decide +kernel
theorem dL_symmetric_150 : decode cL_symmetric 150 = .ok (.aload_n 1, 1) := by decide +kernel
theorem dL_symmetric_151 : decode cL_symmetric 151 = .ok (.lload_n 2, 1) := by decide +kernel
theorem dL_symmetric_152 : decode cL_symmetric 152 = .ok (.invokestatic 93, 3) := by decide +kernel
theorem dL_symmetric_155 : decode cL_symmetric 155 = .ok (.lcmp, 1) := by decide +kernel
theorem dL_symmetric_156 : decode cL_symmetric 156 = .ok (.ifCond .ne 25, 3) := by decide +kernel
theorem dL_symmetric_159 : decode cL_symmetric 159 = .ok (.aload_n 0, 1) := by decide +kernel
theorem dL_symmetric_160 : decode cL_symmetric 160 = .ok (.invokevirtual 100, 3) := by decide +kernel
theorem dL_symmetric_163 : decode cL_symmetric 163 = .ok (.iload 4, 2) := by decide +kernel
theorem dL_symmetric_165 : decode cL_symmetric 165 = .ok (.if_icmp .ne 16, 3) := by decide +kernel
theorem dL_symmetric_168 : decode cL_symmetric 168 = .ok (.aload_n 0, 1) := by decide +kernel
theorem dL_symmetric_169 : decode cL_symmetric 169 = .ok (.invokevirtual 103, 3) := by decide +kernel
theorem dL_symmetric_172 : decode cL_symmetric 172 = .ok (.iload 6, 2) := by decide +kernel
theorem dL_symmetric_174 : decode cL_symmetric 174 = .ok (.if_icmp .ne 7, 3) := by decide +kernel
theorem dL_symmetric_177 : decode cL_symmetric 177 = .ok (.iconst 1, 1) := by decide +kernel
theorem dL_symmetric_178 : decode cL_symmetric 178 = .ok (.goto 4, 3) := by decide +kernel
theorem dL_symmetric_181 : decode cL_symmetric 181 = .ok (.iconst 0, 1) := by decide +kernel
theorem dL_symmetric_182 : decode cL_symmetric 182 = .ok (.ireturn, 1) := by decide +kernel
set_option maxRecDepth 20000 in
theorem ggL_greedy_L_first : GoodIn wsL_greedy wsL_first := goodIn_r _ [4, 5, 6, 3, 7, 8, 9, 10, 11, 12, 13, 14, 15, 16, 17, 18, 19, 20, 21, 22, 23, 24, 25, 26, 27, 28] (by decide +kernel) (by decide +kernel)
set_option maxRecDepth 20000 in
theorem gL_greedy_L_first : GoodIn wsL_greedy (va_wsS RL 38 yL_first wsL_first) := goodIn_app (goodIn_of _ (by decide +kernel)) ggL_greedy_L_first
set_option maxRecDepth 20000 in
theorem ggL_greedy_L_lines : GoodIn wsL_greedy wsL_lines := goodIn_r _ [7] (by decide +kernel) (by decide +kernel)
set_option maxRecDepth 20000 in
theorem gL_greedy_L_lines : GoodIn wsL_greedy (va_wsS RL 31 yL_lines wsL_lines) := goodIn_app (goodIn_of _ (by decide +kernel)) ggL_greedy_L_lines
set_option maxRecDepth 20000 in
theorem ggL_greedy_L_has : GoodIn wsL_greedy wsL_has := goodIn_r _ [13] (by decide +kernel) (by decide +kernel)
set_option maxRecDepth 20000 in
theorem gL_greedy_L_has : GoodIn wsL_greedy (va_wsS RL 14 yL_has wsL_has) := goodIn_app (goodIn_of _ (by decide +kernel)) ggL_greedy_L_has
set_option maxRecDepth 20000 in
theorem ggL_greedy_L_run : GoodIn wsL_greedy wsL_run := goodIn_r _ [31, 1, 2, 3, 4, 5, 6, 7, 8, 9, 10, 11, 12, 13, 14, 15, 16, 17, 18, 19, 20, 21, 22, 23, 24, 25, 26, 27, 28, 32, 33, 34] (by decide +kernel) (by decide +kernel)
set_option maxRecDepth 20000 in
theorem gL_greedy_L_run : GoodIn wsL_greedy (va_wsS RL 106 yL_run wsL_run) := goodIn_app (goodIn_of _ (by decide +kernel)) ggL_greedy_L_run
theorem dL_greedy_0 : decode cL_greedy 0 = .ok (.aload_n 0, 1) := by decide +kernel
theorem dL_greedy_1 : decode cL_greedy 1 = .ok (.iconst 1, 1) := by decide +kernel
theorem dL_greedy_2 : decode cL_greedy 2 = .ok (.lload_n 1, 1) := by decide +kernel
theorem dL_greedy_3 : decode cL_greedy 3 = .ok (.invokestatic 38, 3) := by decide +kernel
theorem dL_greedy_6 : decode cL_greedy 6 = .ok (.istore_n 3, 1) := by decide +kernel
theorem dL_greedy_7 : decode cL_greedy 7 = .ok (.iload_n 3, 1) := by decide +kernel
theorem dL_greedy_8 : decode cL_greedy 8 = .ok (.ifCond .ge 10, 3) := by decide +kernel
theorem dL_greedy_11 : decode cL_greedy 11 = .ok (.aload_n 0, 1) := by decide +kernel
theorem dL_greedy_12 : decode cL_greedy 12 = .ok (.iconst 2, 1) := by decide +kernel
theorem dL_greedy_13 : decode cL_greedy 13 = .ok (.lload_n 1, 1) := by decide +kernel
theorem dL_greedy_14 : decode cL_greedy 14 = .ok (.invokestatic 38, 3) := by decide +kernel
theorem dL_greedy_17 : decode cL_greedy 17 = .ok (.istore_n 3, 1) := by decide +kernel
theorem dL_greedy_18 : decode cL_greedy 18 = .ok (.iload_n 3, 1) := by decide +kernel
theorem dL_greedy_19 : decode cL_greedy 19 = .ok (.ifCond .lt 5, 3) := by decide +kernel
theorem dL_greedy_22 : decode cL_greedy 22 = .ok (.iload_n 3, 1) := by decide +kernel
theorem dL_greedy_23 : decode cL_greedy 23 = .ok (.ireturn, 1) := by decide +kernel
theorem dL_greedy_24 : decode cL_greedy 24 = .ok (.bipush 99, 2) := by decide +kernel
theorem dL_greedy_26 : decode cL_greedy 26 = .ok (.istore 4, 2) := by decide +kernel
theorem dL_greedy_28 : decode cL_greedy 28 = .ok (.aload_n 0, 1) := by decide +kernel
theorem dL_greedy_29 : decode cL_greedy 29 = .ok (.invokestatic 31, 3) := by decide +kernel
theorem dL_greedy_32 : decode cL_greedy 32 = .ok (.iconst 1, 1) := by decide +kernel
theorem dL_greedy_33 : decode cL_greedy 33 = .ok (.isub, 1) := by decide +kernel
theorem dL_greedy_34 : decode cL_greedy 34 = .ok (.istore 5, 2) := by decide +kernel
theorem dL_greedy_36 : decode cL_greedy 36 = .ok (.iload 5, 2) := by decide +kernel
theorem dL_greedy_38 : decode cL_greedy 38 = .ok (.ifCond .lt 51, 3) := by decide +kernel
theorem dL_greedy_41 : decode cL_greedy 41 = .ok (.lload_n 1, 1) := by decide +kernel
theorem dL_greedy_42 : decode cL_greedy 42 = .ok (.iload 5, 2) := by decide +kernel
theorem dL_greedy_44 : decode cL_greedy 44 = .ok (.invokestatic 14, 3) := by decide +kernel
theorem dL_greedy_47 : decode cL_greedy 47 = .ok (.ifCond .ne 36, 3) := by decide +kernel
theorem dL_greedy_50 : decode cL_greedy 50 = .ok (.aload_n 0, 1) := by decide +kernel
theorem dL_greedy_51 : decode cL_greedy 51 = .ok (.lload_n 1, 1) := by decide +kernel
theorem dL_greedy_52 : decode cL_greedy 52 = .ok (.lconst 1, 1) := by decide +kernel
theorem dL_greedy_53 : decode cL_greedy 53 = .ok (.iload 5, 2) := by decide +kernel
theorem dL_greedy_55 : decode cL_greedy 55 = .ok (.lshl, 1) := by decide +kernel
theorem dL_greedy_56 : decode cL_greedy 56 = .ok (.lor, 1) := by decide +kernel
theorem dL_greedy_57 : decode cL_greedy 57 = .ok (.invokestatic 106, 3) := by decide +kernel
theorem dL_greedy_60 : decode cL_greedy 60 = .ok (.iload 4, 2) := by decide +kernel
theorem dL_greedy_62 : decode cL_greedy 62 = .ok (.if_icmp .le 6, 3) := by decide +kernel
theorem dL_greedy_65 : decode cL_greedy 65 = .ok (.goto 18, 3) := by decide +kernel
theorem dL_greedy_68 : decode cL_greedy 68 = .ok (.aload_n 0, 1) := by decide +kernel
theorem dL_greedy_69 : decode cL_greedy 69 = .ok (.lload_n 1, 1) := by decide +kernel
theorem dL_greedy_70 : decode cL_greedy 70 = .ok (.lconst 1, 1) := by decide +kernel
theorem dL_greedy_71 : decode cL_greedy 71 = .ok (.iload 5, 2) := by decide +kernel
theorem dL_greedy_73 : decode cL_greedy 73 = .ok (.lshl, 1) := by decide +kernel
theorem dL_greedy_74 : decode cL_greedy 74 = .ok (.lor, 1) := by decide +kernel
theorem dL_greedy_75 : decode cL_greedy 75 = .ok (.invokestatic 106, 3) := by decide +kernel
theorem dL_greedy_78 : decode cL_greedy 78 = .ok (.istore 4, 2) := by decide +kernel
theorem dL_greedy_80 : decode cL_greedy 80 = .ok (.iload 5, 2) := by decide +kernel
theorem dL_greedy_82 : decode cL_greedy 82 = .ok (.istore_n 3, 1) := by decide +kernel
theorem dL_greedy_83 : decode cL_greedy 83 = .ok (.iinc 5 (-1), 3) := by decide +kernel
theorem dL_greedy_86 : decode cL_greedy 86 = .ok (.goto (-50), 3) := by decide +kernel
theorem dL_greedy_89 : decode cL_greedy 89 = .ok (.iload_n 3, 1) := by decide +kernel
theorem dL_greedy_90 : decode cL_greedy 90 = .ok (.ireturn, 1) := by decide +kernel
set_option maxRecDepth 20000 in
theorem ggL_keeping_L_first : GoodIn wsL_keeping wsL_first := goodIn_r _ [4, 5, 6, 3, 7, 8, 9, 10, 11, 12, 13, 14, 15, 16, 17, 18, 19, 20, 21, 22, 23, 24, 25, 26, 27, 28] (by decide +kernel) (by decide +kernel)
set_option maxRecDepth 20000 in
theorem gL_keeping_L_first : GoodIn wsL_keeping (va_wsS RL 38 yL_first wsL_first) := goodIn_app (goodIn_of _ (by decide +kernel)) ggL_keeping_L_first
set_option maxRecDepth 20000 in
theorem ggL_keeping_L_run : GoodIn wsL_keeping wsL_run := goodIn_r _ [31, 1, 2, 3, 4, 5, 6, 7, 8, 9, 10, 11, 12, 13, 14, 15, 16, 17, 18, 19, 20, 21, 22, 23, 24, 25, 26, 27, 28, 32, 33, 34] (by decide +kernel) (by decide +kernel)
set_option maxRecDepth 20000 in
theorem gL_keeping_L_run : GoodIn wsL_keeping (va_wsS RL 106 yL_run wsL_run) := goodIn_app (goodIn_of _ (by decide +kernel)) ggL_keeping_L_run
set_option maxRecDepth 20000 in
theorem ggL_keeping_L_with : GoodIn wsL_keeping wsL_with := goodIn_r _ [34, 20, 21, 3, 22, 23, 24, 25, 11, 12, 13, 26, 27, 28] (by decide +kernel) (by decide +kernel)
set_option maxRecDepth 20000 in
theorem gL_keeping_L_with : GoodIn wsL_keeping (va_wsS RL 41 yL_with wsL_with) := goodIn_app (goodIn_of _ (by decide +kernel)) ggL_keeping_L_with
set_option maxRecDepth 20000 in
theorem ggL_keeping_L_greedy : GoodIn wsL_keeping wsL_greedy := goodIn_r _ [37, 1, 2, 3, 4, 5, 6, 7, 8, 9, 10, 11, 12, 13, 14, 15, 16, 17, 18, 19, 20, 21, 22, 23, 24, 25, 26, 27, 28, 29, 30, 31, 32, 33, 34] (by decide +kernel) (by decide +kernel)
set_option maxRecDepth 20000 in
theorem gL_keeping_L_greedy : GoodIn wsL_keeping (va_wsS RL 110 yL_greedy wsL_greedy) := goodIn_app (goodIn_of _ (by decide +kernel)) ggL_keeping_L_greedy
set_option maxRecDepth 20000 in
theorem ggL_keeping_L_lines : GoodIn wsL_keeping wsL_lines := goodIn_r _ [7] (by decide +kernel) (by decide +kernel)
set_option maxRecDepth 20000 in
theorem gL_keeping_L_lines : GoodIn wsL_keeping (va_wsS RL 31 yL_lines wsL_lines) := goodIn_app (goodIn_of _ (by decide +kernel)) ggL_keeping_L_lines
set_option maxRecDepth 20000 in
theorem ggL_keeping_L_kind : GoodIn wsL_keeping wsL_kind := goodIn_r _ [10, 11, 12, 3, 13, 14, 15, 16, 17, 18, 19, 20, 21, 22, 23, 24, 25, 26, 27, 28] (by decide +kernel) (by decide +kernel)
set_option maxRecDepth 20000 in
theorem gL_keeping_L_kind : GoodIn wsL_keeping (va_wsS RL 35 yL_kind wsL_kind) := goodIn_app (goodIn_of _ (by decide +kernel)) ggL_keeping_L_kind
set_option maxRecDepth 20000 in
theorem ggL_keeping_L_has : GoodIn wsL_keeping wsL_has := goodIn_r _ [13] (by decide +kernel) (by decide +kernel)
set_option maxRecDepth 20000 in
theorem gL_keeping_L_has : GoodIn wsL_keeping (va_wsS RL 14 yL_has wsL_has) := goodIn_app (goodIn_of _ (by decide +kernel)) ggL_keeping_L_has
set_option maxRecDepth 20000 in
theorem ggL_keeping_L_gain : GoodIn wsL_keeping wsL_gain := goodIn_r _ [16, 17, 18, 3, 19, 11, 12, 13, 20, 21, 22, 23, 24, 25, 26, 27, 28] (by decide +kernel) (by decide +kernel)
set_option maxRecDepth 20000 in
theorem gL_keeping_L_gain : GoodIn wsL_keeping (va_wsS RL 28 yL_gain wsL_gain) := goodIn_app (goodIn_of _ (by decide +kernel)) ggL_keeping_L_gain
theorem dL_keeping_0 : decode cL_keeping 0 = .ok (.aload_n 0, 1) := by decide +kernel
theorem dL_keeping_1 : decode cL_keeping 1 = .ok (.iconst 1, 1) := by decide +kernel
theorem dL_keeping_2 : decode cL_keeping 2 = .ok (.lload_n 1, 1) := by decide +kernel
theorem dL_keeping_3 : decode cL_keeping 3 = .ok (.invokestatic 38, 3) := by decide +kernel
theorem dL_keeping_6 : decode cL_keeping 6 = .ok (.ifCond .lt 39, 3) := by decide +kernel
theorem dL_keeping_9 : decode cL_keeping 9 = .ok (.aload_n 0, 1) := by decide +kernel
theorem dL_keeping_10 : decode cL_keeping 10 = .ok (.iconst 2, 1) := by decide +kernel
theorem dL_keeping_11 : decode cL_keeping 11 = .ok (.lload_n 1, 1) := by decide +kernel
theorem dL_keeping_12 : decode cL_keeping 12 = .ok (.invokestatic 38, 3) := by decide +kernel
theorem dL_keeping_15 : decode cL_keeping 15 = .ok (.ifCond .ge 30, 3) := by decide +kernel
theorem dL_keeping_18 : decode cL_keeping 18 = .ok (.aload_n 0, 1) := by decide +kernel
theorem dL_keeping_19 : decode cL_keeping 19 = .ok (.lload_n 1, 1) := by decide +kernel
theorem dL_keeping_20 : decode cL_keeping 20 = .ok (.invokestatic 106, 3) := by decide +kernel
theorem dL_keeping_23 : decode cL_keeping 23 = .ok (.iconst 2, 1) := by decide +kernel
theorem dL_keeping_24 : decode cL_keeping 24 = .ok (.if_icmp .ne 21, 3) := by decide +kernel
theorem dL_keeping_27 : decode cL_keeping 27 = .ok (.aload_n 0, 1) := by decide +kernel
theorem dL_keeping_28 : decode cL_keeping 28 = .ok (.iconst 0, 1) := by decide +kernel
theorem dL_keeping_29 : decode cL_keeping 29 = .ok (.iaload, 1) := by decide +kernel
theorem dL_keeping_30 : decode cL_keeping 30 = .ok (.aload_n 0, 1) := by decide +kernel
theorem dL_keeping_31 : decode cL_keeping 31 = .ok (.iconst 1, 1) := by decide +kernel
theorem dL_keeping_32 : decode cL_keeping 32 = .ok (.iaload, 1) := by decide +kernel
theorem dL_keeping_33 : decode cL_keeping 33 = .ok (.imul, 1) := by decide +kernel
theorem dL_keeping_34 : decode cL_keeping 34 = .ok (.aload_n 0, 1) := by decide +kernel
theorem dL_keeping_35 : decode cL_keeping 35 = .ok (.iconst 0, 1) := by decide +kernel
theorem dL_keeping_36 : decode cL_keeping 36 = .ok (.lload_n 1, 1) := by decide +kernel
theorem dL_keeping_37 : decode cL_keeping 37 = .ok (.invokestatic 41, 3) := by decide +kernel
theorem dL_keeping_40 : decode cL_keeping 40 = .ok (.isub, 1) := by decide +kernel
theorem dL_keeping_41 : decode cL_keeping 41 = .ok (.iconst 5, 1) := by decide +kernel
theorem dL_keeping_42 : decode cL_keeping 42 = .ok (.if_icmp .ge 9, 3) := by decide +kernel
theorem dL_keeping_45 : decode cL_keeping 45 = .ok (.aload_n 0, 1) := by decide +kernel
theorem dL_keeping_46 : decode cL_keeping 46 = .ok (.lload_n 1, 1) := by decide +kernel
theorem dL_keeping_47 : decode cL_keeping 47 = .ok (.invokestatic 110, 3) := by decide +kernel
theorem dL_keeping_50 : decode cL_keeping 50 = .ok (.ireturn, 1) := by decide +kernel
theorem dL_keeping_51 : decode cL_keeping 51 = .ok (.iconst 0, 1) := by decide +kernel
theorem dL_keeping_52 : decode cL_keeping 52 = .ok (.istore_n 3, 1) := by decide +kernel
theorem dL_keeping_53 : decode cL_keeping 53 = .ok (.iload_n 3, 1) := by decide +kernel
theorem dL_keeping_54 : decode cL_keeping 54 = .ok (.aload_n 0, 1) := by decide +kernel
theorem dL_keeping_55 : decode cL_keeping 55 = .ok (.invokestatic 31, 3) := by decide +kernel
theorem dL_keeping_58 : decode cL_keeping 58 = .ok (.if_icmp .ge 72, 3) := by decide +kernel
theorem dL_keeping_61 : decode cL_keeping 61 = .ok (.aload_n 0, 1) := by decide +kernel
theorem dL_keeping_62 : decode cL_keeping 62 = .ok (.iload_n 3, 1) := by decide +kernel
theorem dL_keeping_63 : decode cL_keeping 63 = .ok (.lload_n 1, 1) := by decide +kernel
theorem dL_keeping_64 : decode cL_keeping 64 = .ok (.invokestatic 35, 3) := by decide +kernel
theorem dL_keeping_67 : decode cL_keeping 67 = .ok (.iconst 2, 1) := by decide +kernel
theorem dL_keeping_68 : decode cL_keeping 68 = .ok (.if_icmp .ge 6, 3) := by decide +kernel
theorem dL_keeping_71 : decode cL_keeping 71 = .ok (.goto 53, 3) := by decide +kernel
theorem dL_keeping_74 : decode cL_keeping 74 = .ok (.iconst 0, 1) := by decide +kernel
theorem dL_keeping_75 : decode cL_keeping 75 = .ok (.istore 4, 2) := by decide +kernel
theorem dL_keeping_77 : decode cL_keeping 77 = .ok (.iload 4, 2) := by decide +kernel
theorem dL_keeping_79 : decode cL_keeping 79 = .ok (.aload_n 0, 1) := by decide +kernel
theorem dL_keeping_80 : decode cL_keeping 80 = .ok (.invokestatic 31, 3) := by decide +kernel
theorem dL_keeping_83 : decode cL_keeping 83 = .ok (.if_icmp .ge 41, 3) := by decide +kernel
theorem dL_keeping_86 : decode cL_keeping 86 = .ok (.iload 4, 2) := by decide +kernel
theorem dL_keeping_88 : decode cL_keeping 88 = .ok (.iload_n 3, 1) := by decide +kernel
theorem dL_keeping_89 : decode cL_keeping 89 = .ok (.if_icmp .eq 29, 3) := by decide +kernel
theorem dL_keeping_92 : decode cL_keeping 92 = .ok (.lload_n 1, 1) := by decide +kernel
theorem dL_keeping_93 : decode cL_keeping 93 = .ok (.iload 4, 2) := by decide +kernel
theorem dL_keeping_95 : decode cL_keeping 95 = .ok (.invokestatic 14, 3) := by decide +kernel
theorem dL_keeping_98 : decode cL_keeping 98 = .ok (.ifCond .ne 20, 3) := by decide +kernel
theorem dL_keeping_101 : decode cL_keeping 101 = .ok (.aload_n 0, 1) := by decide +kernel
theorem dL_keeping_102 : decode cL_keeping 102 = .ok (.iload 4, 2) := by decide +kernel
theorem dL_keeping_104 : decode cL_keeping 104 = .ok (.lload_n 1, 1) := by decide +kernel
theorem dL_keeping_105 : decode cL_keeping 105 = .ok (.lconst 1, 1) := by decide +kernel
theorem dL_keeping_106 : decode cL_keeping 106 = .ok (.iload_n 3, 1) := by decide +kernel
theorem dL_keeping_107 : decode cL_keeping 107 = .ok (.lshl, 1) := by decide +kernel
theorem dL_keeping_108 : decode cL_keeping 108 = .ok (.lor, 1) := by decide +kernel
theorem dL_keeping_109 : decode cL_keeping 109 = .ok (.invokestatic 28, 3) := by decide +kernel
theorem dL_keeping_112 : decode cL_keeping 112 = .ok (.iconst 2, 1) := by decide +kernel
theorem dL_keeping_113 : decode cL_keeping 113 = .ok (.if_icmp .ne 5, 3) := by decide +kernel
theorem dL_keeping_116 : decode cL_keeping 116 = .ok (.iload_n 3, 1) := by decide +kernel
theorem dL_keeping_117 : decode cL_keeping 117 = .ok (.ireturn, 1) := by decide +kernel
theorem dL_keeping_118 : decode cL_keeping 118 = .ok (.iinc 4 1, 3) := by decide +kernel
theorem dL_keeping_121 : decode cL_keeping 121 = .ok (.goto (-44), 3) := by decide +kernel
theorem dL_keeping_124 : decode cL_keeping 124 = .ok (.iinc 3 1, 3) := by decide +kernel
theorem dL_keeping_127 : decode cL_keeping 127 = .ok (.goto (-74), 3) := by decide +kernel
theorem dL_keeping_130 : decode cL_keeping 130 = .ok (.aload_n 0, 1) := by decide +kernel
theorem dL_keeping_131 : decode cL_keeping 131 = .ok (.lload_n 1, 1) := by decide +kernel
theorem dL_keeping_132 : decode cL_keeping 132 = .ok (.invokestatic 110, 3) := by decide +kernel
theorem dL_keeping_135 : decode cL_keeping 135 = .ok (.ireturn, 1) := by decide +kernel
set_option maxRecDepth 20000 in
theorem ggL_choose_L_greedy : GoodIn wsL_choose wsL_greedy := goodIn_r _ [4, 5, 6, 3, 7, 8, 9, 10, 11, 12, 13, 14, 15, 16, 17, 18, 19, 20, 21, 22, 23, 24, 25, 26, 27, 28, 29, 30, 31, 32, 33, 34, 35, 36, 37] (by decide +kernel) (by decide +kernel)
set_option maxRecDepth 20000 in
theorem gL_choose_L_greedy : GoodIn wsL_choose (va_wsS RL 110 yL_greedy wsL_greedy) := goodIn_app (goodIn_of _ (by decide +kernel)) ggL_choose_L_greedy
set_option maxRecDepth 20000 in
theorem ggL_choose_L_keeping : GoodIn wsL_choose wsL_keeping := goodIn_r _ [40, 5, 6, 3, 7, 8, 9, 10, 11, 12, 13, 14, 15, 16, 17, 18, 19, 20, 21, 22, 23, 24, 25, 26, 27, 28, 29, 30, 31, 32, 33, 34, 35, 36, 37, 1, 2, 4] (by decide +kernel) (by decide +kernel)
set_option maxRecDepth 20000 in
theorem gL_choose_L_keeping : GoodIn wsL_choose (va_wsS RL 113 yL_keeping wsL_keeping) := goodIn_app (goodIn_of _ (by decide +kernel)) ggL_choose_L_keeping
theorem dL_choose_0 : decode cL_choose 0 = .ok (.iload_n 1, 1) := by decide +kernel
theorem dL_choose_1 : decode cL_choose 1 = .ok (.ifCond .ne 11, 3) := by decide +kernel
theorem dL_choose_4 : decode cL_choose 4 = .ok (.aload_n 0, 1) := by decide +kernel
theorem dL_choose_5 : decode cL_choose 5 = .ok (.lload_n 2, 1) := by decide +kernel
theorem dL_choose_6 : decode cL_choose 6 = .ok (.invokestatic 110, 3) := by decide +kernel
theorem dL_choose_9 : decode cL_choose 9 = .ok (.goto 8, 3) := by decide +kernel
theorem dL_choose_12 : decode cL_choose 12 = .ok (.aload_n 0, 1) := by decide +kernel
theorem dL_choose_13 : decode cL_choose 13 = .ok (.lload_n 2, 1) := by decide +kernel
theorem dL_choose_14 : decode cL_choose 14 = .ok (.invokestatic 113, 3) := by decide +kernel
theorem dL_choose_17 : decode cL_choose 17 = .ok (.ireturn, 1) := by decide +kernel
set_option maxRecDepth 20000 in
theorem ggL_rest_L_lines : GoodIn wsL_rest wsL_lines := goodIn_r _ [4] (by decide +kernel) (by decide +kernel)
set_option maxRecDepth 20000 in
theorem gL_rest_L_lines : GoodIn wsL_rest (va_wsS RL 31 yL_lines wsL_lines) := goodIn_app (goodIn_of _ (by decide +kernel)) ggL_rest_L_lines
set_option maxRecDepth 20000 in
theorem ggL_rest_L_choose : GoodIn wsL_rest wsL_choose := goodIn_r _ [7, 8, 9, 3, 10, 11, 12, 13, 1, 2, 4, 14, 15, 16, 17, 18, 19, 20, 21, 22, 23, 24, 25, 26, 27, 28, 29, 30, 31, 32, 33, 34, 35, 36, 37, 38, 39, 40, 41, 42, 43] (by decide +kernel) (by decide +kernel)
set_option maxRecDepth 20000 in
theorem gL_rest_L_choose : GoodIn wsL_rest (va_wsS RL 116 yL_choose wsL_choose) := goodIn_app (goodIn_of _ (by decide +kernel)) ggL_rest_L_choose
set_option maxRecDepth 20000 in
theorem ggL_rest_L_gain : GoodIn wsL_rest wsL_gain := goodIn_r _ [22, 23, 24, 3, 25, 17, 18, 19, 26, 27, 28, 29, 30, 31, 32, 33, 34] (by decide +kernel) (by decide +kernel)
set_option maxRecDepth 20000 in
theorem gL_rest_L_gain : GoodIn wsL_rest (va_wsS RL 28 yL_gain wsL_gain) := goodIn_app (goodIn_of _ (by decide +kernel)) ggL_rest_L_gain
theorem dL_rest_0 : decode cL_rest 0 = .ok (.lload_n 1, 1) := by decide +kernel
theorem dL_rest_1 : decode cL_rest 1 = .ok (.lstore 7, 2) := by decide +kernel
theorem dL_rest_3 : decode cL_rest 3 = .ok (.aload_n 0, 1) := by decide +kernel
theorem dL_rest_4 : decode cL_rest 4 = .ok (.iconst 3, 1) := by decide +kernel
theorem dL_rest_5 : decode cL_rest 5 = .ok (.iaload, 1) := by decide +kernel
theorem dL_rest_6 : decode cL_rest 6 = .ok (.istore 9, 2) := by decide +kernel
theorem dL_rest_8 : decode cL_rest 8 = .ok (.iload_n 3, 1) := by decide +kernel
theorem dL_rest_9 : decode cL_rest 9 = .ok (.istore 10, 2) := by decide +kernel
theorem dL_rest_11 : decode cL_rest 11 = .ok (.iconst 0, 1) := by decide +kernel
theorem dL_rest_12 : decode cL_rest 12 = .ok (.istore 11, 2) := by decide +kernel
theorem dL_rest_14 : decode cL_rest 14 = .ok (.iconst (-1), 1) := by decide +kernel
theorem dL_rest_15 : decode cL_rest 15 = .ok (.istore 12, 2) := by decide +kernel
theorem dL_rest_17 : decode cL_rest 17 = .ok (.lload 7, 2) := by decide +kernel
theorem dL_rest_19 : decode cL_rest 19 = .ok (.lconst 1, 1) := by decide +kernel
theorem dL_rest_20 : decode cL_rest 20 = .ok (.aload_n 0, 1) := by decide +kernel
theorem dL_rest_21 : decode cL_rest 21 = .ok (.invokestatic 31, 3) := by decide +kernel
theorem dL_rest_24 : decode cL_rest 24 = .ok (.lshl, 1) := by decide +kernel
theorem dL_rest_25 : decode cL_rest 25 = .ok (.lconst 1, 1) := by decide +kernel
theorem dL_rest_26 : decode cL_rest 26 = .ok (.lsub, 1) := by decide +kernel
theorem dL_rest_27 : decode cL_rest 27 = .ok (.lcmp, 1) := by decide +kernel
theorem dL_rest_28 : decode cL_rest 28 = .ok (.ifCond .eq 77, 3) := by decide +kernel
theorem dL_rest_31 : decode cL_rest 31 = .ok (.aload_n 0, 1) := by decide +kernel
theorem dL_rest_32 : decode cL_rest 32 = .ok (.iload 9, 2) := by decide +kernel
theorem dL_rest_34 : decode cL_rest 34 = .ok (.ifCond .ne 8, 3) := by decide +kernel
theorem dL_rest_37 : decode cL_rest 37 = .ok (.iload 4, 2) := by decide +kernel
theorem dL_rest_39 : decode cL_rest 39 = .ok (.goto 5, 3) := by decide +kernel
theorem dL_rest_42 : decode cL_rest 42 = .ok (.iload 5, 2) := by decide +kernel
theorem dL_rest_44 : decode cL_rest 44 = .ok (.lload 7, 2) := by decide +kernel
theorem dL_rest_46 : decode cL_rest 46 = .ok (.invokestatic 116, 3) := by decide +kernel
theorem dL_rest_49 : decode cL_rest 49 = .ok (.istore 12, 2) := by decide +kernel
theorem dL_rest_51 : decode cL_rest 51 = .ok (.aload_n 0, 1) := by decide +kernel
theorem dL_rest_52 : decode cL_rest 52 = .ok (.iload 12, 2) := by decide +kernel
theorem dL_rest_54 : decode cL_rest 54 = .ok (.lload 7, 2) := by decide +kernel
theorem dL_rest_56 : decode cL_rest 56 = .ok (.invokestatic 28, 3) := by decide +kernel
theorem dL_rest_59 : decode cL_rest 59 = .ok (.istore 13, 2) := by decide +kernel
theorem dL_rest_61 : decode cL_rest 61 = .ok (.iload 10, 2) := by decide +kernel
theorem dL_rest_63 : decode cL_rest 63 = .ok (.iload 9, 2) := by decide +kernel
theorem dL_rest_65 : decode cL_rest 65 = .ok (.ifCond .ne 8, 3) := by decide +kernel
theorem dL_rest_68 : decode cL_rest 68 = .ok (.iload 13, 2) := by decide +kernel
theorem dL_rest_70 : decode cL_rest 70 = .ok (.goto 6, 3) := by decide +kernel
theorem dL_rest_73 : decode cL_rest 73 = .ok (.iload 13, 2) := by decide +kernel
theorem dL_rest_75 : decode cL_rest 75 = .ok (.ineg, 1) := by decide +kernel
theorem dL_rest_76 : decode cL_rest 76 = .ok (.iadd, 1) := by decide +kernel
theorem dL_rest_77 : decode cL_rest 77 = .ok (.istore 10, 2) := by decide +kernel
theorem dL_rest_79 : decode cL_rest 79 = .ok (.lload 7, 2) := by decide +kernel
theorem dL_rest_81 : decode cL_rest 81 = .ok (.lconst 1, 1) := by decide +kernel
theorem dL_rest_82 : decode cL_rest 82 = .ok (.iload 12, 2) := by decide +kernel
theorem dL_rest_84 : decode cL_rest 84 = .ok (.lshl, 1) := by decide +kernel
theorem dL_rest_85 : decode cL_rest 85 = .ok (.lor, 1) := by decide +kernel
theorem dL_rest_86 : decode cL_rest 86 = .ok (.lstore 7, 2) := by decide +kernel
theorem dL_rest_88 : decode cL_rest 88 = .ok (.iload 13, 2) := by decide +kernel
theorem dL_rest_90 : decode cL_rest 90 = .ok (.ifCond .ne 12, 3) := by decide +kernel
theorem dL_rest_93 : decode cL_rest 93 = .ok (.iconst 1, 1) := by decide +kernel
theorem dL_rest_94 : decode cL_rest 94 = .ok (.iload 9, 2) := by decide +kernel
theorem dL_rest_96 : decode cL_rest 96 = .ok (.isub, 1) := by decide +kernel
theorem dL_rest_97 : decode cL_rest 97 = .ok (.istore 9, 2) := by decide +kernel
theorem dL_rest_99 : decode cL_rest 99 = .ok (.iinc 11 1, 3) := by decide +kernel
theorem dL_rest_102 : decode cL_rest 102 = .ok (.goto (-85), 3) := by decide +kernel
theorem dL_rest_105 : decode cL_rest 105 = .ok (.iload 6, 2) := by decide +kernel
theorem dL_rest_107 : decode cL_rest 107 = .ok (.ifCond .ne 8, 3) := by decide +kernel
theorem dL_rest_110 : decode cL_rest 110 = .ok (.iload 10, 2) := by decide +kernel
theorem dL_rest_112 : decode cL_rest 112 = .ok (.goto 16, 3) := by decide +kernel
theorem dL_rest_115 : decode cL_rest 115 = .ok (.iload 6, 2) := by decide +kernel
theorem dL_rest_117 : decode cL_rest 117 = .ok (.iconst 1, 1) := by decide +kernel
theorem dL_rest_118 : decode cL_rest 118 = .ok (.if_icmp .ne 8, 3) := by decide +kernel
theorem dL_rest_121 : decode cL_rest 121 = .ok (.iload 11, 2) := by decide +kernel
theorem dL_rest_123 : decode cL_rest 123 = .ok (.goto 5, 3) := by decide +kernel
theorem dL_rest_126 : decode cL_rest 126 = .ok (.iload 12, 2) := by decide +kernel
theorem dL_rest_128 : decode cL_rest 128 = .ok (.ireturn, 1) := by decide +kernel
set_option maxRecDepth 20000 in
theorem ggL_random_L_lines : GoodIn wsL_random wsL_lines := goodIn_r _ [7] (by decide +kernel) (by decide +kernel)
set_option maxRecDepth 20000 in
theorem gL_random_L_lines : GoodIn wsL_random (va_wsS RL 31 yL_lines wsL_lines) := goodIn_app (goodIn_of _ (by decide +kernel)) ggL_random_L_lines
set_option maxRecDepth 20000 in
theorem ggL_random_L_has : GoodIn wsL_random wsL_has := goodIn_r _ [10] (by decide +kernel) (by decide +kernel)
set_option maxRecDepth 20000 in
theorem gL_random_L_has : GoodIn wsL_random (va_wsS RL 14 yL_has wsL_has) := goodIn_app (goodIn_of _ (by decide +kernel)) ggL_random_L_has
set_option maxRecDepth 20000 in
theorem ggL_random_L_gain : GoodIn wsL_random wsL_gain := goodIn_r _ [13, 14, 15, 6, 16, 8, 9, 10, 17, 18, 19, 20, 21, 22, 23, 24, 25] (by decide +kernel) (by decide +kernel)
set_option maxRecDepth 20000 in
theorem gL_random_L_gain : GoodIn wsL_random (va_wsS RL 28 yL_gain wsL_gain) := goodIn_app (goodIn_of _ (by decide +kernel)) ggL_random_L_gain
theorem dL_random_0 : decode cL_random 0 = .ok (.iload 5, 2) := by decide +kernel
theorem dL_random_2 : decode cL_random 2 = .ok (.i2l, 1) := by decide +kernel
theorem dL_random_3 : decode cL_random 3 = .ok (.lstore 6, 2) := by decide +kernel
theorem dL_random_5 : decode cL_random 5 = .ok (.iconst 0, 1) := by decide +kernel
theorem dL_random_6 : decode cL_random 6 = .ok (.istore 8, 2) := by decide +kernel
theorem dL_random_8 : decode cL_random 8 = .ok (.iconst 0, 1) := by decide +kernel
theorem dL_random_9 : decode cL_random 9 = .ok (.istore 9, 2) := by decide +kernel
theorem dL_random_11 : decode cL_random 11 = .ok (.iload 9, 2) := by decide +kernel
theorem dL_random_13 : decode cL_random 13 = .ok (.iload 4, 2) := by decide +kernel
theorem dL_random_15 : decode cL_random 15 = .ok (.if_icmp .ge 157, 3) := by decide +kernel
theorem dL_random_18 : decode cL_random 18 = .ok (.lload_n 1, 1) := by decide +kernel
theorem dL_random_19 : decode cL_random 19 = .ok (.lstore 10, 2) := by decide +kernel
theorem dL_random_21 : decode cL_random 21 = .ok (.aload_n 0, 1) := by decide +kernel
theorem dL_random_22 : decode cL_random 22 = .ok (.iconst 3, 1) := by decide +kernel
theorem dL_random_23 : decode cL_random 23 = .ok (.iaload, 1) := by decide +kernel
theorem dL_random_24 : decode cL_random 24 = .ok (.istore 12, 2) := by decide +kernel
theorem dL_random_26 : decode cL_random 26 = .ok (.iload 8, 2) := by decide +kernel
theorem dL_random_28 : decode cL_random 28 = .ok (.iload_n 3, 1) := by decide +kernel
theorem dL_random_29 : decode cL_random 29 = .ok (.iadd, 1) := by decide +kernel
theorem dL_random_30 : decode cL_random 30 = .ok (.istore 8, 2) := by decide +kernel
theorem dL_random_32 : decode cL_random 32 = .ok (.aload_n 0, 1) := by decide +kernel
theorem dL_random_33 : decode cL_random 33 = .ok (.invokestatic 31, 3) := by decide +kernel
theorem dL_random_36 : decode cL_random 36 = .ok (.aload_n 0, 1) := by decide +kernel
theorem dL_random_37 : decode cL_random 37 = .ok (.iconst 2, 1) := by decide +kernel
theorem dL_random_38 : decode cL_random 38 = .ok (.iaload, 1) := by decide +kernel
theorem dL_random_39 : decode cL_random 39 = .ok (.isub, 1) := by decide +kernel
theorem dL_random_40 : decode cL_random 40 = .ok (.istore 13, 2) := by decide +kernel
theorem dL_random_42 : decode cL_random 42 = .ok (.iload 13, 2) := by decide +kernel
theorem dL_random_44 : decode cL_random 44 = .ok (.ifCond .le 122, 3) := by decide +kernel
theorem dL_random_47 : decode cL_random 47 = .ok (.ldc2_w 119, 3) := by decide +kernel
theorem dL_random_50 : decode cL_random 50 = .ok (.lload 6, 2) := by decide +kernel
theorem dL_random_52 : decode cL_random 52 = .ok (.lmul, 1) := by decide +kernel
theorem dL_random_53 : decode cL_random 53 = .ok (.ldc2_w 121, 3) := by decide +kernel
theorem dL_random_56 : decode cL_random 56 = .ok (.ladd, 1) := by decide +kernel
theorem dL_random_57 : decode cL_random 57 = .ok (.ldc2_w 123, 3) := by decide +kernel
theorem dL_random_60 : decode cL_random 60 = .ok (.land, 1) := by decide +kernel
theorem dL_random_61 : decode cL_random 61 = .ok (.lstore 6, 2) := by decide +kernel
theorem dL_random_63 : decode cL_random 63 = .ok (.lload 6, 2) := by decide +kernel
theorem dL_random_65 : decode cL_random 65 = .ok (.bipush 16, 2) := by decide +kernel
theorem dL_random_67 : decode cL_random 67 = .ok (.lshr, 1) := by decide +kernel
theorem dL_random_68 : decode cL_random 68 = .ok (.iload 13, 2) := by decide +kernel
theorem dL_random_70 : decode cL_random 70 = .ok (.i2l, 1) := by decide +kernel
theorem dL_random_71 : decode cL_random 71 = .ok (.lrem, 1) := by decide +kernel
theorem dL_random_72 : decode cL_random 72 = .ok (.l2i, 1) := by decide +kernel
theorem dL_random_73 : decode cL_random 73 = .ok (.istore 14, 2) := by decide +kernel
theorem dL_random_75 : decode cL_random 75 = .ok (.iconst 0, 1) := by decide +kernel
theorem dL_random_76 : decode cL_random 76 = .ok (.istore 15, 2) := by decide +kernel
theorem dL_random_78 : decode cL_random 78 = .ok (.lload 10, 2) := by decide +kernel
theorem dL_random_80 : decode cL_random 80 = .ok (.iload 15, 2) := by decide +kernel
theorem dL_random_82 : decode cL_random 82 = .ok (.invokestatic 14, 3) := by decide +kernel
theorem dL_random_85 : decode cL_random 85 = .ok (.ifCond .ne 8, 3) := by decide +kernel
theorem dL_random_88 : decode cL_random 88 = .ok (.iload 14, 2) := by decide +kernel
theorem dL_random_90 : decode cL_random 90 = .ok (.ifCond .le 22, 3) := by decide +kernel
theorem dL_random_93 : decode cL_random 93 = .ok (.lload 10, 2) := by decide +kernel
theorem dL_random_95 : decode cL_random 95 = .ok (.iload 15, 2) := by decide +kernel
theorem dL_random_97 : decode cL_random 97 = .ok (.invokestatic 14, 3) := by decide +kernel
theorem dL_random_100 : decode cL_random 100 = .ok (.ifCond .ne 6, 3) := by decide +kernel
theorem dL_random_103 : decode cL_random 103 = .ok (.iinc 14 (-1), 3) := by decide +kernel
theorem dL_random_106 : decode cL_random 106 = .ok (.iinc 15 1, 3) := by decide +kernel
theorem dL_random_109 : decode cL_random 109 = .ok (.goto (-31), 3) := by decide +kernel
theorem dL_random_112 : decode cL_random 112 = .ok (.aload_n 0, 1) := by decide +kernel
theorem dL_random_113 : decode cL_random 113 = .ok (.iload 15, 2) := by decide +kernel
theorem dL_random_115 : decode cL_random 115 = .ok (.lload 10, 2) := by decide +kernel
theorem dL_random_117 : decode cL_random 117 = .ok (.invokestatic 28, 3) := by decide +kernel
theorem dL_random_120 : decode cL_random 120 = .ok (.istore 16, 2) := by decide +kernel
theorem dL_random_122 : decode cL_random 122 = .ok (.iload 8, 2) := by decide +kernel
theorem dL_random_124 : decode cL_random 124 = .ok (.iload 12, 2) := by decide +kernel
theorem dL_random_126 : decode cL_random 126 = .ok (.ifCond .ne 8, 3) := by decide +kernel
theorem dL_random_129 : decode cL_random 129 = .ok (.iload 16, 2) := by decide +kernel
theorem dL_random_131 : decode cL_random 131 = .ok (.goto 6, 3) := by decide +kernel
theorem dL_random_134 : decode cL_random 134 = .ok (.iload 16, 2) := by decide +kernel
theorem dL_random_136 : decode cL_random 136 = .ok (.ineg, 1) := by decide +kernel
theorem dL_random_137 : decode cL_random 137 = .ok (.iadd, 1) := by decide +kernel
theorem dL_random_138 : decode cL_random 138 = .ok (.istore 8, 2) := by decide +kernel
theorem dL_random_140 : decode cL_random 140 = .ok (.lload 10, 2) := by decide +kernel
theorem dL_random_142 : decode cL_random 142 = .ok (.lconst 1, 1) := by decide +kernel
theorem dL_random_143 : decode cL_random 143 = .ok (.iload 15, 2) := by decide +kernel
theorem dL_random_145 : decode cL_random 145 = .ok (.lshl, 1) := by decide +kernel
theorem dL_random_146 : decode cL_random 146 = .ok (.lor, 1) := by decide +kernel
theorem dL_random_147 : decode cL_random 147 = .ok (.lstore 10, 2) := by decide +kernel
theorem dL_random_149 : decode cL_random 149 = .ok (.iload 16, 2) := by decide +kernel
theorem dL_random_151 : decode cL_random 151 = .ok (.ifCond .ne 9, 3) := by decide +kernel
theorem dL_random_154 : decode cL_random 154 = .ok (.iconst 1, 1) := by decide +kernel
theorem dL_random_155 : decode cL_random 155 = .ok (.iload 12, 2) := by decide +kernel
theorem dL_random_157 : decode cL_random 157 = .ok (.isub, 1) := by decide +kernel
theorem dL_random_158 : decode cL_random 158 = .ok (.istore 12, 2) := by decide +kernel
theorem dL_random_160 : decode cL_random 160 = .ok (.iinc 13 (-1), 3) := by decide +kernel
theorem dL_random_163 : decode cL_random 163 = .ok (.goto (-121), 3) := by decide +kernel
theorem dL_random_166 : decode cL_random 166 = .ok (.iinc 9 1, 3) := by decide +kernel
theorem dL_random_169 : decode cL_random 169 = .ok (.goto (-158), 3) := by decide +kernel
theorem dL_random_172 : decode cL_random 172 = .ok (.iload 8, 2) := by decide +kernel
theorem dL_random_174 : decode cL_random 174 = .ok (.ireturn, 1) := by decide +kernel
set_option maxRecDepth 20000 in
theorem ggL_solved_L_lines : GoodIn wsL_solved wsL_lines := goodIn_r _ [5] (by decide +kernel) (by decide +kernel)
set_option maxRecDepth 20000 in
theorem gL_solved_L_lines : GoodIn wsL_solved (va_wsS RL 31 yL_lines wsL_lines) := goodIn_app (goodIn_of _ (by decide +kernel)) ggL_solved_L_lines
set_option maxRecDepth 20000 in
theorem ggL_solved_L_has : GoodIn wsL_solved wsL_has := goodIn_r _ [8] (by decide +kernel) (by decide +kernel)
set_option maxRecDepth 20000 in
theorem gL_solved_L_has : GoodIn wsL_solved (va_wsS RL 14 yL_has wsL_has) := goodIn_app (goodIn_of _ (by decide +kernel)) ggL_solved_L_has
set_option maxRecDepth 20000 in
theorem ggL_solved_L_gain : GoodIn wsL_solved wsL_gain := goodIn_r _ [11, 12, 13, 4, 14, 6, 7, 8, 15, 16, 17, 18, 19, 20, 21, 22, 23] (by decide +kernel) (by decide +kernel)
set_option maxRecDepth 20000 in
theorem gL_solved_L_gain : GoodIn wsL_solved (va_wsS RL 28 yL_gain wsL_gain) := goodIn_app (goodIn_of _ (by decide +kernel)) ggL_solved_L_gain
theorem dL_solved_0 : decode cL_solved 0 = .ok (.bipush 40, 2) := by decide +kernel
theorem dL_solved_2 : decode cL_solved 2 = .ok (.newarray .int, 2) := by decide +kernel
theorem dL_solved_4 : decode cL_solved 4 = .ok (.astore 4, 2) := by decide +kernel
theorem dL_solved_6 : decode cL_solved 6 = .ok (.bipush 64, 2) := by decide +kernel
theorem dL_solved_8 : decode cL_solved 8 = .ok (.newarray .int, 2) := by decide +kernel
theorem dL_solved_10 : decode cL_solved 10 = .ok (.astore 5, 2) := by decide +kernel
theorem dL_solved_12 : decode cL_solved 12 = .ok (.iconst 0, 1) := by decide +kernel
theorem dL_solved_13 : decode cL_solved 13 = .ok (.istore 6, 2) := by decide +kernel
theorem dL_solved_15 : decode cL_solved 15 = .ok (.iconst 0, 1) := by decide +kernel
theorem dL_solved_16 : decode cL_solved 16 = .ok (.istore 7, 2) := by decide +kernel
theorem dL_solved_18 : decode cL_solved 18 = .ok (.iload 7, 2) := by decide +kernel
theorem dL_solved_20 : decode cL_solved 20 = .ok (.aload_n 0, 1) := by decide +kernel
theorem dL_solved_21 : decode cL_solved 21 = .ok (.invokestatic 31, 3) := by decide +kernel
theorem dL_solved_24 : decode cL_solved 24 = .ok (.if_icmp .ge 28, 3) := by decide +kernel
theorem dL_solved_27 : decode cL_solved 27 = .ok (.lload_n 1, 1) := by decide +kernel
theorem dL_solved_28 : decode cL_solved 28 = .ok (.iload 7, 2) := by decide +kernel
theorem dL_solved_30 : decode cL_solved 30 = .ok (.invokestatic 14, 3) := by decide +kernel
theorem dL_solved_33 : decode cL_solved 33 = .ok (.ifCond .ne 13, 3) := by decide +kernel
theorem dL_solved_36 : decode cL_solved 36 = .ok (.aload 4, 2) := by decide +kernel
theorem dL_solved_38 : decode cL_solved 38 = .ok (.iload 6, 2) := by decide +kernel
theorem dL_solved_40 : decode cL_solved 40 = .ok (.iinc 6 1, 3) := by decide +kernel
theorem dL_solved_43 : decode cL_solved 43 = .ok (.iload 7, 2) := by decide +kernel
theorem dL_solved_45 : decode cL_solved 45 = .ok (.iastore, 1) := by decide +kernel
theorem dL_solved_46 : decode cL_solved 46 = .ok (.iinc 7 1, 3) := by decide +kernel
theorem dL_solved_49 : decode cL_solved 49 = .ok (.goto (-31), 3) := by decide +kernel
theorem dL_solved_52 : decode cL_solved 52 = .ok (.iconst 1, 1) := by decide +kernel
theorem dL_solved_53 : decode cL_solved 53 = .ok (.iload 6, 2) := by decide +kernel
theorem dL_solved_55 : decode cL_solved 55 = .ok (.ishl, 1) := by decide +kernel
theorem dL_solved_56 : decode cL_solved 56 = .ok (.iconst 1, 1) := by decide +kernel
theorem dL_solved_57 : decode cL_solved 57 = .ok (.isub, 1) := by decide +kernel
theorem dL_solved_58 : decode cL_solved 58 = .ok (.istore 7, 2) := by decide +kernel
theorem dL_solved_60 : decode cL_solved 60 = .ok (.iload 7, 2) := by decide +kernel
theorem dL_solved_62 : decode cL_solved 62 = .ok (.ifCond .lt 182, 3) := by decide +kernel
theorem dL_solved_65 : decode cL_solved 65 = .ok (.lload_n 1, 1) := by decide +kernel
theorem dL_solved_66 : decode cL_solved 66 = .ok (.lstore 8, 2) := by decide +kernel
theorem dL_solved_68 : decode cL_solved 68 = .ok (.iconst 0, 1) := by decide +kernel
theorem dL_solved_69 : decode cL_solved 69 = .ok (.istore 10, 2) := by decide +kernel
theorem dL_solved_71 : decode cL_solved 71 = .ok (.iload 10, 2) := by decide +kernel
theorem dL_solved_73 : decode cL_solved 73 = .ok (.iload 6, 2) := by decide +kernel
theorem dL_solved_75 : decode cL_solved 75 = .ok (.if_icmp .ge 32, 3) := by decide +kernel
theorem dL_solved_78 : decode cL_solved 78 = .ok (.iload 7, 2) := by decide +kernel
