theorem dL_solved_80 : decode cL_solved 80 = .ok (.iload 10, 2) := by decide +kernel
theorem dL_solved_82 : decode cL_solved 82 = .ok (.ishr, 1) := by decide +kernel
theorem dL_solved_83 : decode cL_solved 83 = .ok (.iconst 1, 1) := by decide +kernel
theorem dL_solved_84 : decode cL_solved 84 = .ok (.iand, 1) := by decide +kernel
theorem dL_solved_85 : decode cL_solved 85 = .ok (.iconst 1, 1) := by decide +kernel
theorem dL_solved_86 : decode cL_solved 86 = .ok (.if_icmp .ne 15, 3) := by decide +kernel
theorem dL_solved_89 : decode cL_solved 89 = .ok (.lload 8, 2) := by decide +kernel
theorem dL_solved_91 : decode cL_solved 91 = .ok (.lconst 1, 1) := by decide +kernel
theorem dL_solved_92 : decode cL_solved 92 = .ok (.aload 4, 2) := by decide +kernel
theorem dL_solved_94 : decode cL_solved 94 = .ok (.iload 10, 2) := by decide +kernel
theorem dL_solved_96 : decode cL_solved 96 = .ok (.iaload, 1) := by decide +kernel
theorem dL_solved_97 : decode cL_solved 97 = .ok (.lshl, 1) := by decide +kernel
theorem dL_solved_98 : decode cL_solved 98 = .ok (.lor, 1) := by decide +kernel
theorem dL_solved_99 : decode cL_solved 99 = .ok (.lstore 8, 2) := by decide +kernel
theorem dL_solved_101 : decode cL_solved 101 = .ok (.iinc 10 1, 3) := by decide +kernel
theorem dL_solved_104 : decode cL_solved 104 = .ok (.goto (-33), 3) := by decide +kernel
theorem dL_solved_107 : decode cL_solved 107 = .ok (.iload 7, 2) := by decide +kernel
theorem dL_solved_109 : decode cL_solved 109 = .ok (.iconst 1, 1) := by decide +kernel
theorem dL_solved_110 : decode cL_solved 110 = .ok (.iload 6, 2) := by decide +kernel
theorem dL_solved_112 : decode cL_solved 112 = .ok (.ishl, 1) := by decide +kernel
theorem dL_solved_113 : decode cL_solved 113 = .ok (.iconst 1, 1) := by decide +kernel
theorem dL_solved_114 : decode cL_solved 114 = .ok (.isub, 1) := by decide +kernel
theorem dL_solved_115 : decode cL_solved 115 = .ok (.if_icmp .ne 7, 3) := by decide +kernel
theorem dL_solved_118 : decode cL_solved 118 = .ok (.iconst 0, 1) := by decide +kernel
theorem dL_solved_119 : decode cL_solved 119 = .ok (.goto 5, 3) := by decide +kernel
theorem dL_solved_122 : decode cL_solved 122 = .ok (.bipush (-99), 2) := by decide +kernel
theorem dL_solved_124 : decode cL_solved 124 = .ok (.istore 10, 2) := by decide +kernel
theorem dL_solved_126 : decode cL_solved 126 = .ok (.iconst 0, 1) := by decide +kernel
theorem dL_solved_127 : decode cL_solved 127 = .ok (.istore 11, 2) := by decide +kernel
theorem dL_solved_129 : decode cL_solved 129 = .ok (.iload 11, 2) := by decide +kernel
theorem dL_solved_131 : decode cL_solved 131 = .ok (.iload 6, 2) := by decide +kernel
theorem dL_solved_133 : decode cL_solved 133 = .ok (.if_icmp .ge 98, 3) := by decide +kernel
theorem dL_solved_136 : decode cL_solved 136 = .ok (.iload 7, 2) := by decide +kernel
theorem dL_solved_138 : decode cL_solved 138 = .ok (.iload 11, 2) := by decide +kernel
theorem dL_solved_140 : decode cL_solved 140 = .ok (.ishr, 1) := by decide +kernel
theorem dL_solved_141 : decode cL_solved 141 = .ok (.iconst 1, 1) := by decide +kernel
theorem dL_solved_142 : decode cL_solved 142 = .ok (.iand, 1) := by decide +kernel
theorem dL_solved_143 : decode cL_solved 143 = .ok (.iconst 1, 1) := by decide +kernel
theorem dL_solved_144 : decode cL_solved 144 = .ok (.if_icmp .ne 6, 3) := by decide +kernel
theorem dL_solved_147 : decode cL_solved 147 = .ok (.goto 78, 3) := by decide +kernel
theorem dL_solved_150 : decode cL_solved 150 = .ok (.aload_n 0, 1) := by decide +kernel
theorem dL_solved_151 : decode cL_solved 151 = .ok (.aload 4, 2) := by decide +kernel
theorem dL_solved_153 : decode cL_solved 153 = .ok (.iload 11, 2) := by decide +kernel
theorem dL_solved_155 : decode cL_solved 155 = .ok (.iaload, 1) := by decide +kernel
theorem dL_solved_156 : decode cL_solved 156 = .ok (.lload 8, 2) := by decide +kernel
theorem dL_solved_158 : decode cL_solved 158 = .ok (.invokestatic 28, 3) := by decide +kernel
theorem dL_solved_161 : decode cL_solved 161 = .ok (.istore 12, 2) := by decide +kernel
theorem dL_solved_163 : decode cL_solved 163 = .ok (.iload 12, 2) := by decide +kernel
theorem dL_solved_165 : decode cL_solved 165 = .ok (.ifCond .le 19, 3) := by decide +kernel
theorem dL_solved_168 : decode cL_solved 168 = .ok (.iload 12, 2) := by decide +kernel
theorem dL_solved_170 : decode cL_solved 170 = .ok (.aload 5, 2) := by decide +kernel
theorem dL_solved_172 : decode cL_solved 172 = .ok (.iload 7, 2) := by decide +kernel
theorem dL_solved_174 : decode cL_solved 174 = .ok (.iconst 1, 1) := by decide +kernel
theorem dL_solved_175 : decode cL_solved 175 = .ok (.iload 11, 2) := by decide +kernel
theorem dL_solved_177 : decode cL_solved 177 = .ok (.ishl, 1) := by decide +kernel
theorem dL_solved_178 : decode cL_solved 178 = .ok (.ior, 1) := by decide +kernel
theorem dL_solved_179 : decode cL_solved 179 = .ok (.iaload, 1) := by decide +kernel
theorem dL_solved_180 : decode cL_solved 180 = .ok (.iadd, 1) := by decide +kernel
theorem dL_solved_181 : decode cL_solved 181 = .ok (.goto 14, 3) := by decide +kernel
theorem dL_solved_184 : decode cL_solved 184 = .ok (.aload 5, 2) := by decide +kernel
theorem dL_solved_186 : decode cL_solved 186 = .ok (.iload 7, 2) := by decide +kernel
theorem dL_solved_188 : decode cL_solved 188 = .ok (.iconst 1, 1) := by decide +kernel
theorem dL_solved_189 : decode cL_solved 189 = .ok (.iload 11, 2) := by decide +kernel
theorem dL_solved_191 : decode cL_solved 191 = .ok (.ishl, 1) := by decide +kernel
theorem dL_solved_192 : decode cL_solved 192 = .ok (.ior, 1) := by decide +kernel
theorem dL_solved_193 : decode cL_solved 193 = .ok (.iaload, 1) := by decide +kernel
theorem dL_solved_194 : decode cL_solved 194 = .ok (.ineg, 1) := by decide +kernel
theorem dL_solved_195 : decode cL_solved 195 = .ok (.istore 13, 2) := by decide +kernel
theorem dL_solved_197 : decode cL_solved 197 = .ok (.iload 7, 2) := by decide +kernel
theorem dL_solved_199 : decode cL_solved 199 = .ok (.ifCond .ne 15, 3) := by decide +kernel
theorem dL_solved_202 : decode cL_solved 202 = .ok (.aload 4, 2) := by decide +kernel
theorem dL_solved_204 : decode cL_solved 204 = .ok (.iload 11, 2) := by decide +kernel
theorem dL_solved_206 : decode cL_solved 206 = .ok (.iaload, 1) := by decide +kernel
theorem dL_solved_207 : decode cL_solved 207 = .ok (.iload_n 3, 1) := by decide +kernel
theorem dL_solved_208 : decode cL_solved 208 = .ok (.if_icmp .ne 6, 3) := by decide +kernel
theorem dL_solved_211 : decode cL_solved 211 = .ok (.iload 13, 2) := by decide +kernel
theorem dL_solved_213 : decode cL_solved 213 = .ok (.ireturn, 1) := by decide +kernel
theorem dL_solved_214 : decode cL_solved 214 = .ok (.iload 13, 2) := by decide +kernel
theorem dL_solved_216 : decode cL_solved 216 = .ok (.iload 10, 2) := by decide +kernel
theorem dL_solved_218 : decode cL_solved 218 = .ok (.if_icmp .le 7, 3) := by decide +kernel
theorem dL_solved_221 : decode cL_solved 221 = .ok (.iload 13, 2) := by decide +kernel
theorem dL_solved_223 : decode cL_solved 223 = .ok (.istore 10, 2) := by decide +kernel
theorem dL_solved_225 : decode cL_solved 225 = .ok (.iinc 11 1, 3) := by decide +kernel
theorem dL_solved_228 : decode cL_solved 228 = .ok (.goto (-99), 3) := by decide +kernel
theorem dL_solved_231 : decode cL_solved 231 = .ok (.aload 5, 2) := by decide +kernel
theorem dL_solved_233 : decode cL_solved 233 = .ok (.iload 7, 2) := by decide +kernel
theorem dL_solved_235 : decode cL_solved 235 = .ok (.iload 10, 2) := by decide +kernel
theorem dL_solved_237 : decode cL_solved 237 = .ok (.iastore, 1) := by decide +kernel
theorem dL_solved_238 : decode cL_solved 238 = .ok (.iinc 7 (-1), 3) := by decide +kernel
theorem dL_solved_241 : decode cL_solved 241 = .ok (.goto (-181), 3) := by decide +kernel
theorem dL_solved_244 : decode cL_solved 244 = .ok (.aload 5, 2) := by decide +kernel
theorem dL_solved_246 : decode cL_solved 246 = .ok (.iconst 0, 1) := by decide +kernel
theorem dL_solved_247 : decode cL_solved 247 = .ok (.iaload, 1) := by decide +kernel
theorem dL_solved_248 : decode cL_solved 248 = .ok (.ireturn, 1) := by decide +kernel
set_option maxRecDepth 20000 in
theorem ggL_told_L_lines : GoodIn wsL_told wsL_lines := goodIn_r _ [6] (by decide +kernel) (by decide +kernel)
set_option maxRecDepth 20000 in
theorem gL_told_L_lines : GoodIn wsL_told (va_wsS RL 31 yL_lines wsL_lines) := goodIn_app (goodIn_of _ (by decide +kernel)) ggL_told_L_lines
set_option maxRecDepth 20000 in
theorem ggL_told_L_kind : GoodIn wsL_told wsL_kind := goodIn_r _ [9, 10, 11, 5, 12, 13, 14, 15, 16, 17, 18, 19, 20, 21, 22, 23, 24, 25, 26, 27] (by decide +kernel) (by decide +kernel)
set_option maxRecDepth 20000 in
theorem gL_told_L_kind : GoodIn wsL_told (va_wsS RL 35 yL_kind wsL_kind) := goodIn_app (goodIn_of _ (by decide +kernel)) ggL_told_L_kind
set_option maxRecDepth 20000 in
theorem ggL_told_X8_kind : GoodIn wsL_told wsX8_kind := goodIn_ca (goodIn_r _ [32, 33, 34, 35, 36, 37, 38, 39, 40, 41, 42, 43, 44, 45, 46, 31, 47, 48, 49, 50, 51, 52, 53, 54, 55, 56, 57, 58, 59, 60, 61, 62, 63, 64, 65, 66, 67, 68, 69, 70, 71, 72, 73, 74, 75, 76, 77, 78, 79, 80, 81, 82, 83, 84, 85, 86, 87, 418, 419, 420, 421, 422, 423, 424, 425, 426, 427, 428, 429, 430, 431, 432, 433, 434, 435, 436, 437, 438] (by decide +kernel) (by decide +kernel)) (goodIn_sub (fun _ h => List.mem_cons_of_mem _ (List.mem_append_left _ (List.mem_append_left _ (List.mem_append_right _ h)))) (by decide +kernel))
set_option maxRecDepth 20000 in
theorem gL_told_X8_kind : GoodIn wsL_told (wsV RL 125 RX8 yX8_kind wsX8_kind) := goodIn_app (goodIn_of _ (by decide +kernel)) ggL_told_X8_kind
set_option maxRecDepth 20000 in
theorem ggL_told_X8_price : GoodIn wsL_told wsX8_price := goodIn_ca (goodIn_ca (goodIn_r _ [91, 33, 34, 92, 93, 35, 36, 37, 38, 39, 40, 41, 42, 43, 44, 45, 46, 31, 47, 48, 49, 50, 51, 52, 53, 94, 95, 96, 97, 62, 63, 64, 65, 66, 67, 68, 69, 70, 71, 72, 73, 74, 75, 76, 77, 78, 79, 98, 99, 100, 101, 418, 419, 420, 421, 422, 423, 424, 425, 426, 427, 428, 429, 430, 431, 432, 433, 434, 435, 436, 437, 438] (by decide +kernel) (by decide +kernel)) (goodIn_sub (fun _ h => List.mem_cons_of_mem _ (List.mem_append_left _ (List.mem_append_left _ (List.mem_append_right _ h)))) (by decide +kernel))) (goodIn_sub (fun _ h => List.mem_cons_of_mem _ (List.mem_append_left _ (List.mem_append_right _ h))) (by decide +kernel))
set_option maxRecDepth 20000 in
theorem gL_told_X8_price : GoodIn wsL_told (wsV RL 127 RX8 yX8_price wsX8_price) := goodIn_app (goodIn_of _ (by decide +kernel)) ggL_told_X8_price
set_option maxRecDepth 20000 in
theorem ggL_told_L_run : GoodIn wsL_told wsL_run := goodIn_r _ [104, 105, 106, 5, 107, 3, 4, 6, 7, 8, 9, 10, 11, 12, 13, 14, 15, 16, 17, 18, 19, 20, 21, 22, 23, 24, 25, 26, 27, 108, 109, 110] (by decide +kernel) (by decide +kernel)
set_option maxRecDepth 20000 in
theorem gL_told_L_run : GoodIn wsL_told (va_wsS RL 106 yL_run wsL_run) := goodIn_app (goodIn_of _ (by decide +kernel)) ggL_told_L_run
set_option maxRecDepth 20000 in
theorem ggL_told_X8_owner : GoodIn wsL_told wsX8_owner := goodIn_ca (goodIn_r _ [114, 33, 34, 35, 36, 115, 116, 117, 41, 118, 62, 119, 120, 121, 122, 123, 124, 125, 126, 71, 127, 418, 419, 420, 421, 422, 423, 424, 425, 432, 433, 434, 435, 436, 437, 438, 426, 427, 428, 429, 430, 431] (by decide +kernel) (by decide +kernel)) (goodIn_sub (fun _ h => List.mem_cons_of_mem _ (List.mem_append_left _ (List.mem_append_left _ (List.mem_append_right _ h)))) (by decide +kernel))
set_option maxRecDepth 20000 in
theorem gL_told_X8_owner : GoodIn wsL_told (wsV RL 130 RX8 yX8_owner wsX8_owner) := goodIn_app (goodIn_of _ (by decide +kernel)) ggL_told_X8_owner
set_option maxRecDepth 20000 in
theorem ggL_told_X8_drawn : GoodIn wsL_told wsX8_drawn := goodIn_ca (goodIn_r _ [131, 33, 34, 36, 132, 133, 134, 135, 122, 136, 137, 125, 126, 71, 127, 418, 419, 420, 421, 422, 423, 424, 425, 426, 427, 428, 429, 430, 431] (by decide +kernel) (by decide +kernel)) (goodIn_sub (fun _ h => List.mem_cons_of_mem _ (List.mem_append_left _ (List.mem_append_left _ (List.mem_append_right _ h)))) (by decide +kernel))
set_option maxRecDepth 20000 in
theorem gL_told_X8_drawn : GoodIn wsL_told (wsV RL 133 RX8 yX8_drawn wsX8_drawn) := goodIn_app (goodIn_of _ (by decide +kernel)) ggL_told_X8_drawn
set_option maxRecDepth 20000 in
theorem ggL_told_X8_count : GoodIn wsL_told wsX8_count := goodIn_ca (goodIn_r _ [141, 142, 143, 36, 37, 35, 144, 145, 146, 132, 147, 148, 99, 100, 41, 101, 62, 63, 64, 65, 66, 67, 68, 69, 70, 71, 72, 54, 55, 56, 57, 58, 59, 60, 61, 73, 74, 75, 76, 77, 78, 79, 149, 80, 81, 82, 83, 84, 85, 86, 87, 43, 52, 31, 53, 150, 151, 152, 153, 94, 95, 96, 97, 98, 154, 155, 156, 157, 158, 159, 160, 161, 162, 163, 164, 165, 166, 167, 168, 169, 170, 171, 172, 173, 174, 175, 176, 177, 178, 179, 180, 181, 182, 183, 184, 185, 186, 187, 188, 189, 190, 191, 192, 126, 127, 193, 194, 195, 196, 197, 198, 199, 200, 201, 202, 203, 204, 205, 206, 207, 208, 209, 418, 419, 420, 421, 422, 423, 424, 425, 426, 427, 428, 429, 430, 431, 432, 433, 434, 435, 436, 437, 438, 439, 440, 441, 442, 443, 444, 445, 446, 447, 448, 449, 450, 451, 452, 453, 454] (by decide +kernel) (by decide +kernel)) (goodIn_sub (fun _ h => List.mem_cons_of_mem _ (List.mem_append_right _ h)) (by decide +kernel))
set_option maxRecDepth 20000 in
theorem gL_told_X8_count : GoodIn wsL_told (wsV RL 55 RX8 yX8_count wsX8_count) := goodIn_app (goodIn_of _ (by decide +kernel)) ggL_told_X8_count
set_option maxRecDepth 20000 in
theorem ggL_told_X8_score : GoodIn wsL_told wsX8_score := goodIn_ca (goodIn_r _ [213, 142, 143, 36, 214, 215, 216, 122, 217, 218, 219, 220, 120, 121, 123, 124, 125, 126, 71, 127, 418, 419, 420, 421, 422, 423, 424, 425, 426, 427, 428, 429, 430, 431, 432, 433, 434, 435, 436, 437, 438] (by decide +kernel) (by decide +kernel)) (goodIn_sub (fun _ h => List.mem_cons_of_mem _ (List.mem_append_right _ h)) (by decide +kernel))
set_option maxRecDepth 20000 in
theorem gL_told_X8_score : GoodIn wsL_told (wsV RL 136 RX8 yX8_score wsX8_score) := goodIn_app (goodIn_of _ (by decide +kernel)) ggL_told_X8_score
set_option maxRecDepth 20000 in
theorem ggL_told_L_first : GoodIn wsL_told wsL_first := goodIn_r _ [107, 3, 4, 5, 6, 7, 8, 9, 10, 11, 12, 13, 14, 15, 16, 17, 18, 19, 20, 21, 22, 23, 24, 25, 26, 27] (by decide +kernel) (by decide +kernel)
set_option maxRecDepth 20000 in
theorem gL_told_L_first : GoodIn wsL_told (va_wsS RL 38 yL_first wsL_first) := goodIn_app (goodIn_of _ (by decide +kernel)) ggL_told_L_first
set_option maxRecDepth 20000 in
theorem ggL_told_X8_safeMoves : GoodIn wsL_told wsX8_safeMoves := goodIn_r _ [224, 36, 37, 35, 80, 81, 82, 41, 83, 68, 58, 59, 60, 61, 62, 63, 64, 65, 66, 67, 69, 70, 71, 72, 73, 74, 75, 76, 77, 78, 79, 84, 85, 86, 87, 43, 52, 31, 53, 225, 226, 227, 149, 51, 418, 419, 420, 421, 422, 423, 424, 425, 426, 427, 428, 429, 430, 431, 432, 433, 434, 435, 436, 437, 438] (by decide +kernel) (by decide +kernel)
set_option maxRecDepth 20000 in
theorem gL_told_X8_safeMoves : GoodIn wsL_told (wsV RL 139 RX8 yX8_safeMoves wsX8_safeMoves) := goodIn_app (goodIn_of _ (by decide +kernel)) ggL_told_X8_safeMoves
set_option maxRecDepth 20000 in
theorem ggL_told_X8_advice : GoodIn wsL_told wsX8_advice := goodIn_ca (goodIn_r _ [231, 142, 143, 232, 36, 37, 233, 234, 31, 235, 236, 237, 238, 239, 240, 241, 242, 243, 244, 85, 86, 41, 87, 43, 68, 52, 53, 245, 74, 75, 76, 77, 78, 79, 246, 247, 248, 249, 250, 251, 252, 253, 254, 255, 256, 257, 258, 259, 260, 261, 262, 263, 264, 265, 266, 267, 268, 269, 270, 225, 226, 227, 149, 271, 184, 71, 185, 272, 273, 274, 275, 276, 126, 127, 277, 278, 279, 280, 281, 282, 283, 284, 285, 286, 67, 69, 70, 72, 287, 288, 289, 290, 49, 50, 51, 291, 292, 293, 294, 295, 296, 297, 298, 299, 300, 301, 302, 303, 304, 305, 306, 307, 55, 56, 57, 58, 59, 60, 61, 62, 63, 64, 65, 66, 73, 308, 81, 82, 83, 84, 309, 310, 311, 312, 313, 314, 315, 99, 100, 101, 316, 95, 96, 97, 98, 317, 318, 319, 320, 321, 322, 323, 324, 418, 419, 420, 421, 422, 423, 424, 425, 426, 427, 428, 429, 430, 431, 455, 456, 432, 433, 434, 435, 436, 437, 438, 457, 458, 459, 460, 461, 462, 463, 464] (by decide +kernel) (by decide +kernel)) (goodIn_sub (fun _ h => List.mem_cons_of_mem _ (List.mem_append_right _ h)) (by decide +kernel))
set_option maxRecDepth 20000 in
theorem gL_told_X8_advice : GoodIn wsL_told (wsV RL 142 RX8 yX8_advice wsX8_advice) := goodIn_app (goodIn_of _ (by decide +kernel)) ggL_told_X8_advice
set_option maxRecDepth 20000 in
theorem ggL_told_L_greedy : GoodIn wsL_told wsL_greedy := goodIn_r _ [327, 105, 106, 5, 107, 3, 4, 6, 7, 8, 9, 10, 11, 12, 13, 14, 15, 16, 17, 18, 19, 20, 21, 22, 23, 24, 25, 26, 27, 102, 103, 104, 108, 109, 110] (by decide +kernel) (by decide +kernel)
set_option maxRecDepth 20000 in
theorem gL_told_L_greedy : GoodIn wsL_told (va_wsS RL 110 yL_greedy wsL_greedy) := goodIn_app (goodIn_of _ (by decide +kernel)) ggL_told_L_greedy
set_option maxRecDepth 20000 in
theorem ggL_told_L_keeping : GoodIn wsL_told wsL_keeping := goodIn_r _ [330, 105, 106, 5, 107, 3, 4, 6, 7, 8, 9, 10, 11, 12, 13, 14, 15, 16, 17, 18, 19, 20, 21, 22, 23, 24, 25, 26, 27, 102, 103, 104, 108, 109, 110, 325, 326, 327] (by decide +kernel) (by decide +kernel)
set_option maxRecDepth 20000 in
theorem gL_told_L_keeping : GoodIn wsL_told (va_wsS RL 113 yL_keeping wsL_keeping) := goodIn_app (goodIn_of _ (by decide +kernel)) ggL_told_L_keeping
set_option maxRecDepth 20000 in
theorem ggL_told_L_at : GoodIn wsL_told wsL_at := goodIn_r _ [333] (by decide +kernel) (by decide +kernel)
set_option maxRecDepth 20000 in
theorem gL_told_L_at : GoodIn wsL_told (va_wsS RL 145 yL_at wsL_at) := goodIn_app (goodIn_of _ (by decide +kernel)) ggL_told_L_at
set_option maxRecDepth 20000 in
theorem ggL_told_X8_playout : GoodIn wsL_told wsX8_playout := goodIn_ca (goodIn_r _ [337, 142, 143, 338, 36, 232, 147, 37, 233, 234, 31, 235, 339, 340, 341, 122, 342, 343, 344, 345, 137, 124, 346, 134, 135, 136, 125, 126, 71, 127, 347, 184, 185, 220, 120, 121, 123, 236, 237, 238, 239, 240, 241, 242, 243, 244, 85, 86, 41, 87, 43, 68, 52, 53, 245, 74, 75, 76, 77, 78, 79, 246, 247, 248, 249, 250, 251, 252, 253, 254, 255, 256, 257, 258, 259, 260, 261, 262, 263, 264, 265, 266, 267, 268, 269, 270, 225, 226, 227, 149, 271, 272, 273, 274, 275, 276, 277, 278, 279, 280, 281, 282, 283, 284, 285, 286, 67, 69, 70, 72, 287, 288, 289, 290, 49, 50, 51, 291, 292, 293, 294, 295, 296, 297, 298, 299, 300, 301, 302, 303, 304, 305, 306, 307, 55, 56, 57, 58, 59, 60, 61, 62, 63, 64, 65, 66, 73, 308, 81, 82, 83, 84, 309, 310, 311, 312, 313, 314, 315, 99, 100, 101, 316, 95, 96, 97, 98, 317, 318, 319, 320, 321, 322, 323, 324, 348, 349, 350, 351, 218, 352, 353, 354, 355, 356, 357, 358, 359, 360, 361, 116, 117, 118, 362, 363, 364, 365, 366, 367, 215, 216, 217, 219, 418, 419, 420, 421, 422, 423, 424, 425, 426, 427, 428, 429, 430, 431, 455, 456, 432, 433, 434, 435, 436, 437, 438, 457, 458, 459, 460, 461, 462, 463, 464] (by decide +kernel) (by decide +kernel)) (goodIn_sub (fun _ h => List.mem_cons_of_mem _ (List.mem_append_right _ h)) (by decide +kernel))
set_option maxRecDepth 20000 in
theorem gL_told_X8_playout : GoodIn wsL_told (wsV RL 148 RX8 yX8_playout wsX8_playout) := goodIn_app (goodIn_of _ (by decide +kernel)) ggL_told_X8_playout
set_option maxRecDepth 20000 in
theorem ggL_told_L_rest : GoodIn wsL_told wsL_rest := goodIn_r _ [370, 3, 4, 5, 6, 371, 372, 373, 325, 326, 327, 105, 106, 107, 7, 8, 9, 10, 11, 12, 13, 14, 15, 16, 17, 18, 19, 20, 21, 22, 23, 24, 25, 26, 27, 102, 103, 104, 108, 109, 110, 328, 329, 330] (by decide +kernel) (by decide +kernel)
set_option maxRecDepth 20000 in
theorem gL_told_L_rest : GoodIn wsL_told (va_wsS RL 152 yL_rest wsL_rest) := goodIn_app (goodIn_of _ (by decide +kernel)) ggL_told_L_rest
set_option maxRecDepth 20000 in
theorem ggL_told_X8_meanDifference : GoodIn wsL_told wsX8_meanDifference := goodIn_ca (goodIn_r _ [377, 142, 143, 338, 36, 339, 340, 341, 122, 342, 343, 344, 345, 137, 124, 346, 134, 135, 136, 125, 126, 71, 127, 347, 184, 185, 220, 120, 121, 123, 378, 379, 380, 31, 381, 35, 37, 382, 383, 384, 385, 386, 85, 86, 41, 87, 43, 68, 52, 53, 149, 74, 75, 76, 77, 78, 79, 387, 269, 270, 225, 226, 227, 348, 349, 350, 351, 218, 352, 278, 279, 280, 281, 282, 353, 354, 355, 356, 357, 358, 359, 360, 361, 116, 117, 118, 62, 63, 64, 65, 66, 67, 69, 70, 72, 362, 292, 293, 294, 295, 363, 364, 365, 366, 367, 215, 216, 217, 219, 418, 419, 420, 421, 422, 423, 424, 425, 426, 427, 428, 429, 430, 431, 432, 433, 434, 435, 436, 437, 438] (by decide +kernel) (by decide +kernel)) (goodIn_sub (fun _ h => List.mem_cons_of_mem _ (List.mem_append_right _ h)) (by decide +kernel))
set_option maxRecDepth 20000 in
theorem gL_told_X8_meanDifference : GoodIn wsL_told (wsV RL 157 RX8 yX8_meanDifference wsX8_meanDifference) := goodIn_app (goodIn_of _ (by decide +kernel)) ggL_told_X8_meanDifference
set_option maxRecDepth 20000 in
theorem ggL_told_L_random : GoodIn wsL_told wsL_random := goodIn_r _ [390, 391, 392, 393, 3, 4, 5, 6, 10, 11, 12, 13, 14, 15, 16, 17, 18, 19, 20, 21, 22, 23, 24, 25, 26, 27] (by decide +kernel) (by decide +kernel)
set_option maxRecDepth 20000 in
theorem gL_told_L_random : GoodIn wsL_told (va_wsS RL 161 yL_random wsL_random) := goodIn_app (goodIn_of _ (by decide +kernel)) ggL_told_L_random
set_option maxRecDepth 20000 in
theorem ggL_told_X8_outcome : GoodIn wsL_told wsX8_outcome := goodIn_ca (goodIn_r _ [397, 92, 93, 398, 35, 36, 37, 399, 400, 401, 31, 402, 146, 132, 386, 85, 86, 41, 87, 43, 68, 52, 53, 403, 404, 405, 249, 406, 252, 253, 254, 255, 256, 257, 258, 259, 260, 261, 262, 263, 251, 264, 265, 266, 267, 268, 74, 75, 76, 77, 78, 79, 269, 270, 225, 226, 227, 149, 271, 184, 71, 185, 272, 273, 274, 275, 276, 126, 127, 277, 278, 279, 280, 281, 282, 283, 284, 285, 286, 67, 69, 70, 72, 287, 288, 289, 290, 49, 50, 51, 291, 292, 293, 294, 295, 296, 297, 298, 299, 300, 301, 302, 303, 304, 305, 306, 418, 419, 420, 421, 422, 423, 424, 425, 426, 427, 428, 429, 430, 431, 432, 433, 434, 435, 436, 437, 438, 457, 458, 459, 460, 461, 462, 463, 464] (by decide +kernel) (by decide +kernel)) (goodIn_sub (fun _ h => List.mem_cons_of_mem _ (List.mem_append_left _ (List.mem_append_right _ h))) (by decide +kernel))
set_option maxRecDepth 20000 in
theorem gL_told_X8_outcome : GoodIn wsL_told (wsV RL 165 RX8 yX8_outcome wsX8_outcome) := goodIn_app (goodIn_of _ (by decide +kernel)) ggL_told_X8_outcome
set_option maxRecDepth 20000 in
theorem ggL_told_L_solved : GoodIn wsL_told wsL_solved := goodIn_r _ [409, 1, 3, 4, 5, 6, 10, 11, 12, 13, 14, 15, 16, 17, 18, 19, 20, 21, 22, 23, 24, 25, 26, 27] (by decide +kernel) (by decide +kernel)
set_option maxRecDepth 20000 in
theorem gL_told_L_solved : GoodIn wsL_told (va_wsS RL 168 yL_solved wsL_solved) := goodIn_app (goodIn_of _ (by decide +kernel)) ggL_told_L_solved
set_option maxRecDepth 20000 in
theorem ggL_told_L_has : GoodIn wsL_told wsL_has := goodIn_r _ [12] (by decide +kernel) (by decide +kernel)
set_option maxRecDepth 20000 in
theorem gL_told_L_has : GoodIn wsL_told (va_wsS RL 14 yL_has wsL_has) := goodIn_app (goodIn_of _ (by decide +kernel)) ggL_told_L_has
set_option maxRecDepth 20000 in
theorem ggL_told_X8_worth : GoodIn wsL_told wsX8_worth := goodIn_ca (goodIn_ca (goodIn_r _ [413, 33, 34, 92, 93, 35, 398, 36, 37, 38, 39, 40, 41, 42, 43, 44, 45, 46, 31, 47, 48, 49, 50, 51, 52, 53, 399, 400, 401, 402, 146, 132, 386, 85, 86, 87, 68, 414, 415, 416, 249, 417, 251, 253, 254, 255, 256, 257, 258, 259, 260, 261, 262, 263, 264, 265, 266, 267, 252, 268, 74, 75, 76, 77, 78, 79, 269, 270, 225, 226, 227, 149, 271, 184, 71, 185, 272, 273, 274, 275, 276, 126, 127, 277, 278, 279, 280, 281, 282, 283, 284, 285, 286, 67, 69, 70, 72, 287, 288, 289, 290, 291, 292, 293, 294, 295, 296, 297, 298, 299, 300, 301, 302, 303, 304, 305, 306, 418, 419, 420, 421, 422, 423, 424, 425, 426, 427, 428, 429, 430, 431, 432, 433, 434, 435, 436, 437, 438, 457, 458, 459, 460, 461, 462, 463, 464] (by decide +kernel) (by decide +kernel)) (goodIn_sub (fun _ h => List.mem_cons_of_mem _ (List.mem_append_left _ (List.mem_append_left _ (List.mem_append_right _ h)))) (by decide +kernel))) (goodIn_sub (fun _ h => List.mem_cons_of_mem _ (List.mem_append_left _ (List.mem_append_right _ h))) (by decide +kernel))
set_option maxRecDepth 20000 in
theorem gL_told_X8_worth : GoodIn wsL_told (wsV RL 172 RX8 yX8_worth wsX8_worth) := goodIn_app (goodIn_of _ (by decide +kernel)) ggL_told_X8_worth
theorem dL_told_0 : decode cL_told 0 = .ok (.iconst 4, 1) := by decide +kernel
theorem dL_told_1 : decode cL_told 1 = .ok (.newarray .int, 2) := by decide +kernel
theorem dL_told_3 : decode cL_told 3 = .ok (.astore 7, 2) := by decide +kernel
theorem dL_told_5 : decode cL_told 5 = .ok (.iconst 0, 1) := by decide +kernel
theorem dL_told_6 : decode cL_told 6 = .ok (.istore 8, 2) := by decide +kernel
theorem dL_told_8 : decode cL_told 8 = .ok (.iconst 0, 1) := by decide +kernel
theorem dL_told_9 : decode cL_told 9 = .ok (.istore 9, 2) := by decide +kernel
theorem dL_told_11 : decode cL_told 11 = .ok (.iconst 0, 1) := by decide +kernel
theorem dL_told_12 : decode cL_told 12 = .ok (.istore 10, 2) := by decide +kernel
theorem dL_told_14 : decode cL_told 14 = .ok (.iload 10, 2) := by decide +kernel
theorem dL_told_16 : decode cL_told 16 = .ok (.aload_n 2, 1) := by decide +kernel
theorem dL_told_17 : decode cL_told 17 = .ok (.invokestatic 31, 3) := by decide +kernel
theorem dL_told_20 : decode cL_told 20 = .ok (.if_icmp .ge 64, 3) := by decide +kernel
theorem dL_told_23 : decode cL_told 23 = .ok (.aload_n 2, 1) := by decide +kernel
theorem dL_told_24 : decode cL_told 24 = .ok (.iload 10, 2) := by decide +kernel
theorem dL_told_26 : decode cL_told 26 = .ok (.lload_n 3, 1) := by decide +kernel
theorem dL_told_27 : decode cL_told 27 = .ok (.invokestatic 35, 3) := by decide +kernel
theorem dL_told_30 : decode cL_told 30 = .ok (.istore 11, 2) := by decide +kernel
theorem dL_told_32 : decode cL_told 32 = .ok (.aload 7, 2) := by decide +kernel
theorem dL_told_34 : decode cL_told 34 = .ok (.iload 11, 2) := by decide +kernel
theorem dL_told_36 : decode cL_told 36 = .ok (.dup2, 1) := by decide +kernel
theorem dL_told_37 : decode cL_told 37 = .ok (.iaload, 1) := by decide +kernel
theorem dL_told_38 : decode cL_told 38 = .ok (.iconst 1, 1) := by decide +kernel
theorem dL_told_39 : decode cL_told 39 = .ok (.iadd, 1) := by decide +kernel
theorem dL_told_40 : decode cL_told 40 = .ok (.iastore, 1) := by decide +kernel
theorem dL_told_41 : decode cL_told 41 = .ok (.aload_n 0, 1) := by decide +kernel
theorem dL_told_42 : decode cL_told 42 = .ok (.iload 10, 2) := by decide +kernel
theorem dL_told_44 : decode cL_told 44 = .ok (.invokevirtual 125, 3) := by decide +kernel
theorem dL_told_47 : decode cL_told 47 = .ok (.iload 11, 2) := by decide +kernel
theorem dL_told_49 : decode cL_told 49 = .ok (.if_icmp .ne 27, 3) := by decide +kernel
theorem dL_told_52 : decode cL_told 52 = .ok (.iload 11, 2) := by decide +kernel
theorem dL_told_54 : decode cL_told 54 = .ok (.ifCond .le 24, 3) := by decide +kernel
theorem dL_told_57 : decode cL_told 57 = .ok (.aload_n 0, 1) := by decide +kernel
theorem dL_told_58 : decode cL_told 58 = .ok (.iload 10, 2) := by decide +kernel
theorem dL_told_60 : decode cL_told 60 = .ok (.invokevirtual 127, 3) := by decide +kernel
theorem dL_told_63 : decode cL_told 63 = .ok (.aload_n 2, 1) := by decide +kernel
theorem dL_told_64 : decode cL_told 64 = .ok (.lload_n 3, 1) := by decide +kernel
theorem dL_told_65 : decode cL_told 65 = .ok (.lconst 1, 1) := by decide +kernel
theorem dL_told_66 : decode cL_told 66 = .ok (.iload 10, 2) := by decide +kernel
theorem dL_told_68 : decode cL_told 68 = .ok (.lshl, 1) := by decide +kernel
theorem dL_told_69 : decode cL_told 69 = .ok (.lor, 1) := by decide +kernel
theorem dL_told_70 : decode cL_told 70 = .ok (.invokestatic 106, 3) := by decide +kernel
theorem dL_told_73 : decode cL_told 73 = .ok (.if_icmp .eq 5, 3) := by decide +kernel
theorem dL_told_76 : decode cL_told 76 = .ok (.iconst 0, 1) := by decide +kernel
theorem dL_told_77 : decode cL_told 77 = .ok (.ireturn, 1) := by decide +kernel
theorem dL_told_78 : decode cL_told 78 = .ok (.iinc 10 1, 3) := by decide +kernel
theorem dL_told_81 : decode cL_told 81 = .ok (.goto (-67), 3) := by decide +kernel
theorem dL_told_84 : decode cL_told 84 = .ok (.iconst 0, 1) := by decide +kernel
theorem dL_told_85 : decode cL_told 85 = .ok (.istore 10, 2) := by decide +kernel
theorem dL_told_87 : decode cL_told 87 = .ok (.iload 10, 2) := by decide +kernel
theorem dL_told_89 : decode cL_told 89 = .ok (.aload_n 2, 1) := by decide +kernel
theorem dL_told_90 : decode cL_told 90 = .ok (.iconst 0, 1) := by decide +kernel
theorem dL_told_91 : decode cL_told 91 = .ok (.iaload, 1) := by decide +kernel
theorem dL_told_92 : decode cL_told 92 = .ok (.aload_n 2, 1) := by decide +kernel
theorem dL_told_93 : decode cL_told 93 = .ok (.iconst 1, 1) := by decide +kernel
theorem dL_told_94 : decode cL_told 94 = .ok (.iaload, 1) := by decide +kernel
theorem dL_told_95 : decode cL_told 95 = .ok (.imul, 1) := by decide +kernel
theorem dL_told_96 : decode cL_told 96 = .ok (.if_icmp .ge 62, 3) := by decide +kernel
theorem dL_told_99 : decode cL_told 99 = .ok (.aload_n 0, 1) := by decide +kernel
theorem dL_told_100 : decode cL_told 100 = .ok (.iload 10, 2) := by decide +kernel
theorem dL_told_102 : decode cL_told 102 = .ok (.invokevirtual 130, 3) := by decide +kernel
theorem dL_told_105 : decode cL_told 105 = .ok (.aload 5, 2) := by decide +kernel
theorem dL_told_107 : decode cL_told 107 = .ok (.iload 10, 2) := by decide +kernel
theorem dL_told_109 : decode cL_told 109 = .ok (.iaload, 1) := by decide +kernel
theorem dL_told_110 : decode cL_told 110 = .ok (.if_icmp .eq 5, 3) := by decide +kernel
theorem dL_told_113 : decode cL_told 113 = .ok (.iconst 0, 1) := by decide +kernel
theorem dL_told_114 : decode cL_told 114 = .ok (.ireturn, 1) := by decide +kernel
theorem dL_told_115 : decode cL_told 115 = .ok (.iload 8, 2) := by decide +kernel
theorem dL_told_117 : decode cL_told 117 = .ok (.aload 5, 2) := by decide +kernel
theorem dL_told_119 : decode cL_told 119 = .ok (.iload 10, 2) := by decide +kernel
theorem dL_told_121 : decode cL_told 121 = .ok (.iaload, 1) := by decide +kernel
theorem dL_told_122 : decode cL_told 122 = .ok (.ifCond .ne 7, 3) := by decide +kernel
theorem dL_told_125 : decode cL_told 125 = .ok (.iconst 1, 1) := by decide +kernel
theorem dL_told_126 : decode cL_told 126 = .ok (.goto 4, 3) := by decide +kernel
theorem dL_told_129 : decode cL_told 129 = .ok (.iconst 0, 1) := by decide +kernel
theorem dL_told_130 : decode cL_told 130 = .ok (.iadd, 1) := by decide +kernel
theorem dL_told_131 : decode cL_told 131 = .ok (.istore 8, 2) := by decide +kernel
theorem dL_told_133 : decode cL_told 133 = .ok (.iload 9, 2) := by decide +kernel
theorem dL_told_135 : decode cL_told 135 = .ok (.aload 5, 2) := by decide +kernel
theorem dL_told_137 : decode cL_told 137 = .ok (.iload 10, 2) := by decide +kernel
theorem dL_told_139 : decode cL_told 139 = .ok (.iaload, 1) := by decide +kernel
theorem dL_told_140 : decode cL_told 140 = .ok (.iconst 1, 1) := by decide +kernel
theorem dL_told_141 : decode cL_told 141 = .ok (.if_icmp .ne 7, 3) := by decide +kernel
theorem dL_told_144 : decode cL_told 144 = .ok (.iconst 1, 1) := by decide +kernel
theorem dL_told_145 : decode cL_told 145 = .ok (.goto 4, 3) := by decide +kernel
theorem dL_told_148 : decode cL_told 148 = .ok (.iconst 0, 1) := by decide +kernel
theorem dL_told_149 : decode cL_told 149 = .ok (.iadd, 1) := by decide +kernel
theorem dL_told_150 : decode cL_told 150 = .ok (.istore 9, 2) := by decide +kernel
theorem dL_told_152 : decode cL_told 152 = .ok (.iinc 10 1, 3) := by decide +kernel
theorem dL_told_155 : decode cL_told 155 = .ok (.goto (-68), 3) := by decide +kernel
theorem dL_told_158 : decode cL_told 158 = .ok (.iconst 0, 1) := by decide +kernel
theorem dL_told_159 : decode cL_told 159 = .ok (.istore 10, 2) := by decide +kernel
theorem dL_told_161 : decode cL_told 161 = .ok (.iload 10, 2) := by decide +kernel
theorem dL_told_163 : decode cL_told 163 = .ok (.aload_n 2, 1) := by decide +kernel
theorem dL_told_164 : decode cL_told 164 = .ok (.iconst 2, 1) := by decide +kernel
theorem dL_told_165 : decode cL_told 165 = .ok (.iaload, 1) := by decide +kernel
theorem dL_told_166 : decode cL_told 166 = .ok (.if_icmp .ge 25, 3) := by decide +kernel
theorem dL_told_169 : decode cL_told 169 = .ok (.aload_n 0, 1) := by decide +kernel
theorem dL_told_170 : decode cL_told 170 = .ok (.iload 10, 2) := by decide +kernel
theorem dL_told_172 : decode cL_told 172 = .ok (.invokevirtual 133, 3) := by decide +kernel
theorem dL_told_175 : decode cL_told 175 = .ok (.aload 6, 2) := by decide +kernel
theorem dL_told_177 : decode cL_told 177 = .ok (.iload 10, 2) := by decide +kernel
theorem dL_told_179 : decode cL_told 179 = .ok (.iaload, 1) := by decide +kernel
theorem dL_told_180 : decode cL_told 180 = .ok (.if_icmp .eq 5, 3) := by decide +kernel
theorem dL_told_183 : decode cL_told 183 = .ok (.iconst 0, 1) := by decide +kernel
theorem dL_told_184 : decode cL_told 184 = .ok (.ireturn, 1) := by decide +kernel
theorem dL_told_185 : decode cL_told 185 = .ok (.iinc 10 1, 3) := by decide +kernel
theorem dL_told_188 : decode cL_told 188 = .ok (.goto (-27), 3) := by decide +kernel
theorem dL_told_191 : decode cL_told 191 = .ok (.aload_n 0, 1) := by decide +kernel
theorem dL_told_192 : decode cL_told 192 = .ok (.iconst 0, 1) := by decide +kernel
theorem dL_told_193 : decode cL_told 193 = .ok (.invokevirtual 55, 3) := by decide +kernel
theorem dL_told_196 : decode cL_told 196 = .ok (.aload_n 2, 1) := by decide +kernel
theorem dL_told_197 : decode cL_told 197 = .ok (.iconst 0, 1) := by decide +kernel
theorem dL_told_198 : decode cL_told 198 = .ok (.iaload, 1) := by decide +kernel
theorem dL_told_199 : decode cL_told 199 = .ok (.if_icmp .ne 134, 3) := by decide +kernel
theorem dL_told_202 : decode cL_told 202 = .ok (.aload_n 0, 1) := by decide +kernel
theorem dL_told_203 : decode cL_told 203 = .ok (.iconst 1, 1) := by decide +kernel
theorem dL_told_204 : decode cL_told 204 = .ok (.invokevirtual 55, 3) := by decide +kernel
theorem dL_told_207 : decode cL_told 207 = .ok (.aload_n 2, 1) := by decide +kernel
theorem dL_told_208 : decode cL_told 208 = .ok (.iconst 1, 1) := by decide +kernel
theorem dL_told_209 : decode cL_told 209 = .ok (.iaload, 1) := by decide +kernel
theorem dL_told_210 : decode cL_told 210 = .ok (.if_icmp .ne 123, 3) := by decide +kernel
theorem dL_told_213 : decode cL_told 213 = .ok (.aload_n 0, 1) := by decide +kernel
theorem dL_told_214 : decode cL_told 214 = .ok (.iconst 2, 1) := by decide +kernel
theorem dL_told_215 : decode cL_told 215 = .ok (.invokevirtual 55, 3) := by decide +kernel
theorem dL_told_218 : decode cL_told 218 = .ok (.aload_n 2, 1) := by decide +kernel
theorem dL_told_219 : decode cL_told 219 = .ok (.invokestatic 31, 3) := by decide +kernel
theorem dL_told_222 : decode cL_told 222 = .ok (.if_icmp .ne 111, 3) := by decide +kernel
theorem dL_told_225 : decode cL_told 225 = .ok (.aload_n 0, 1) := by decide +kernel
theorem dL_told_226 : decode cL_told 226 = .ok (.iconst 3, 1) := by decide +kernel
theorem dL_told_227 : decode cL_told 227 = .ok (.invokevirtual 55, 3) := by decide +kernel
theorem dL_told_230 : decode cL_told 230 = .ok (.aload_n 2, 1) := by decide +kernel
theorem dL_told_231 : decode cL_told 231 = .ok (.iconst 2, 1) := by decide +kernel
theorem dL_told_232 : decode cL_told 232 = .ok (.iaload, 1) := by decide +kernel
theorem dL_told_233 : decode cL_told 233 = .ok (.if_icmp .ne 100, 3) := by decide +kernel
theorem dL_told_236 : decode cL_told 236 = .ok (.aload_n 0, 1) := by decide +kernel
theorem dL_told_237 : decode cL_told 237 = .ok (.iconst 4, 1) := by decide +kernel
theorem dL_told_238 : decode cL_told 238 = .ok (.invokevirtual 55, 3) := by decide +kernel
theorem dL_told_241 : decode cL_told 241 = .ok (.iload 8, 2) := by decide +kernel
theorem dL_told_243 : decode cL_told 243 = .ok (.iload 9, 2) := by decide +kernel
theorem dL_told_245 : decode cL_told 245 = .ok (.iadd, 1) := by decide +kernel
theorem dL_told_246 : decode cL_told 246 = .ok (.if_icmp .ne 87, 3) := by decide +kernel
theorem dL_told_249 : decode cL_told 249 = .ok (.aload_n 0, 1) := by decide +kernel
theorem dL_told_250 : decode cL_told 250 = .ok (.iconst 5, 1) := by decide +kernel
theorem dL_told_251 : decode cL_told 251 = .ok (.invokevirtual 55, 3) := by decide +kernel
theorem dL_told_254 : decode cL_told 254 = .ok (.aload_n 2, 1) := by decide +kernel
theorem dL_told_255 : decode cL_told 255 = .ok (.iconst 3, 1) := by decide +kernel
theorem dL_told_256 : decode cL_told 256 = .ok (.iaload, 1) := by decide +kernel
theorem dL_told_257 : decode cL_told 257 = .ok (.if_icmp .ne 76, 3) := by decide +kernel
theorem dL_told_260 : decode cL_told 260 = .ok (.aload_n 0, 1) := by decide +kernel
theorem dL_told_261 : decode cL_told 261 = .ok (.bipush 6, 2) := by decide +kernel
theorem dL_told_263 : decode cL_told 263 = .ok (.invokevirtual 55, 3) := by decide +kernel
theorem dL_told_266 : decode cL_told 266 = .ok (.aload 7, 2) := by decide +kernel
theorem dL_told_268 : decode cL_told 268 = .ok (.iconst 1, 1) := by decide +kernel
theorem dL_told_269 : decode cL_told 269 = .ok (.iaload, 1) := by decide +kernel
theorem dL_told_270 : decode cL_told 270 = .ok (.if_icmp .ne 63, 3) := by decide +kernel
theorem dL_told_273 : decode cL_told 273 = .ok (.aload_n 0, 1) := by decide +kernel
theorem dL_told_274 : decode cL_told 274 = .ok (.bipush 7, 2) := by decide +kernel
theorem dL_told_276 : decode cL_told 276 = .ok (.invokevirtual 55, 3) := by decide +kernel
theorem dL_told_279 : decode cL_told 279 = .ok (.aload 7, 2) := by decide +kernel
theorem dL_told_281 : decode cL_told 281 = .ok (.iconst 2, 1) := by decide +kernel
theorem dL_told_282 : decode cL_told 282 = .ok (.iaload, 1) := by decide +kernel
theorem dL_told_283 : decode cL_told 283 = .ok (.if_icmp .ne 50, 3) := by decide +kernel
theorem dL_told_286 : decode cL_told 286 = .ok (.aload_n 0, 1) := by decide +kernel
theorem dL_told_287 : decode cL_told 287 = .ok (.bipush 8, 2) := by decide +kernel
theorem dL_told_289 : decode cL_told 289 = .ok (.invokevirtual 55, 3) := by decide +kernel
theorem dL_told_292 : decode cL_told 292 = .ok (.aload 7, 2) := by decide +kernel
theorem dL_told_294 : decode cL_told 294 = .ok (.iconst 3, 1) := by decide +kernel
theorem dL_told_295 : decode cL_told 295 = .ok (.iaload, 1) := by decide +kernel
theorem dL_told_296 : decode cL_told 296 = .ok (.if_icmp .ne 37, 3) := by decide +kernel
theorem dL_told_299 : decode cL_told 299 = .ok (.aload_n 0, 1) := by decide +kernel
theorem dL_told_300 : decode cL_told 300 = .ok (.bipush 9, 2) := by decide +kernel
theorem dL_told_302 : decode cL_told 302 = .ok (.invokevirtual 55, 3) := by decide +kernel
theorem dL_told_305 : decode cL_told 305 = .ok (.aload_n 2, 1) := by decide +kernel
theorem dL_told_306 : decode cL_told 306 = .ok (.lload_n 3, 1) := by decide +kernel
theorem dL_told_307 : decode cL_told 307 = .ok (.invokestatic 106, 3) := by decide +kernel
theorem dL_told_310 : decode cL_told 310 = .ok (.if_icmp .ne 23, 3) := by decide +kernel
theorem dL_told_313 : decode cL_told 313 = .ok (.aload_n 0, 1) := by decide +kernel
theorem dL_told_314 : decode cL_told 314 = .ok (.iconst 0, 1) := by decide +kernel
theorem dL_told_315 : decode cL_told 315 = .ok (.invokevirtual 136, 3) := by decide +kernel
theorem dL_told_318 : decode cL_told 318 = .ok (.iload 8, 2) := by decide +kernel
theorem dL_told_320 : decode cL_told 320 = .ok (.if_icmp .ne 13, 3) := by decide +kernel
theorem dL_told_323 : decode cL_told 323 = .ok (.aload_n 0, 1) := by decide +kernel
theorem dL_told_324 : decode cL_told 324 = .ok (.iconst 1, 1) := by decide +kernel
theorem dL_told_325 : decode cL_told 325 = .ok (.invokevirtual 136, 3) := by decide +kernel
theorem dL_told_328 : decode cL_told 328 = .ok (.iload 9, 2) := by decide +kernel
theorem dL_told_330 : decode cL_told 330 = .ok (.if_icmp .eq 5, 3) := by decide +kernel
theorem dL_told_333 : decode cL_told 333 = .ok (.iconst 0, 1) := by decide +kernel
theorem dL_told_334 : decode cL_told 334 = .ok (.ireturn, 1) := by decide +kernel
theorem dL_told_335 : decode cL_told 335 = .ok (.lload_n 3, 1) := by decide +kernel
theorem dL_told_336 : decode cL_told 336 = .ok (.lstore 10, 2) := by decide +kernel
theorem dL_told_338 : decode cL_told 338 = .ok (.iconst 0, 1) := by decide +kernel
theorem dL_told_339 : decode cL_told 339 = .ok (.istore 12, 2) := by decide +kernel
theorem dL_told_341 : decode cL_told 341 = .ok (.aload_n 2, 1) := by decide +kernel
theorem dL_told_342 : decode cL_told 342 = .ok (.iconst 2, 1) := by decide +kernel
theorem dL_told_343 : decode cL_told 343 = .ok (.lload 10, 2) := by decide +kernel
theorem dL_told_345 : decode cL_told 345 = .ok (.invokestatic 38, 3) := by decide +kernel
theorem dL_told_348 : decode cL_told 348 = .ok (.istore 13, 2) := by decide +kernel
theorem dL_told_350 : decode cL_told 350 = .ok (.iload 13, 2) := by decide +kernel
theorem dL_told_352 : decode cL_told 352 = .ok (.ifCond .lt 27, 3) := by decide +kernel
theorem dL_told_355 : decode cL_told 355 = .ok (.lload 10, 2) := by decide +kernel
theorem dL_told_357 : decode cL_told 357 = .ok (.lconst 1, 1) := by decide +kernel
theorem dL_told_358 : decode cL_told 358 = .ok (.iload 13, 2) := by decide +kernel
theorem dL_told_360 : decode cL_told 360 = .ok (.lshl, 1) := by decide +kernel
theorem dL_told_361 : decode cL_told 361 = .ok (.lor, 1) := by decide +kernel
theorem dL_told_362 : decode cL_told 362 = .ok (.lstore 10, 2) := by decide +kernel
theorem dL_told_364 : decode cL_told 364 = .ok (.iinc 12 1, 3) := by decide +kernel
theorem dL_told_367 : decode cL_told 367 = .ok (.aload_n 2, 1) := by decide +kernel
theorem dL_told_368 : decode cL_told 368 = .ok (.iconst 2, 1) := by decide +kernel
theorem dL_told_369 : decode cL_told 369 = .ok (.lload 10, 2) := by decide +kernel
theorem dL_told_371 : decode cL_told 371 = .ok (.invokestatic 38, 3) := by decide +kernel
theorem dL_told_374 : decode cL_told 374 = .ok (.istore 13, 2) := by decide +kernel
theorem dL_told_376 : decode cL_told 376 = .ok (.goto (-26), 3) := by decide +kernel
theorem dL_told_379 : decode cL_told 379 = .ok (.aload_n 0, 1) := by decide +kernel
theorem dL_told_380 : decode cL_told 380 = .ok (.invokevirtual 139, 3) := by decide +kernel
theorem dL_told_383 : decode cL_told 383 = .ok (.iload 12, 2) := by decide +kernel
theorem dL_told_385 : decode cL_told 385 = .ok (.if_icmp .eq 5, 3) := by decide +kernel
theorem dL_told_388 : decode cL_told 388 = .ok (.iconst 0, 1) := by decide +kernel
theorem dL_told_389 : decode cL_told 389 = .ok (.ireturn, 1) := by decide +kernel
theorem dL_told_390 : decode cL_told 390 = .ok (.aload_n 2, 1) := by decide +kernel
theorem dL_told_391 : decode cL_told 391 = .ok (.iconst 2, 1) := by decide +kernel
theorem dL_told_392 : decode cL_told 392 = .ok (.iaload, 1) := by decide +kernel
theorem dL_told_393 : decode cL_told 393 = .ok (.aload_n 2, 1) := by decide +kernel
theorem dL_told_394 : decode cL_told 394 = .ok (.invokestatic 31, 3) := by decide +kernel
theorem dL_told_397 : decode cL_told 397 = .ok (.if_icmp .ne 7, 3) := by decide +kernel
theorem dL_told_400 : decode cL_told 400 = .ok (.iconst 1, 1) := by decide +kernel
theorem dL_told_401 : decode cL_told 401 = .ok (.goto 4, 3) := by decide +kernel
theorem dL_told_404 : decode cL_told 404 = .ok (.iconst 0, 1) := by decide +kernel
theorem dL_told_405 : decode cL_told 405 = .ok (.istore 13, 2) := by decide +kernel
theorem dL_told_407 : decode cL_told 407 = .ok (.aload_n 0, 1) := by decide +kernel
theorem dL_told_408 : decode cL_told 408 = .ok (.iconst 0, 1) := by decide +kernel
theorem dL_told_409 : decode cL_told 409 = .ok (.invokevirtual 142, 3) := by decide +kernel
theorem dL_told_412 : decode cL_told 412 = .ok (.iload 13, 2) := by decide +kernel
theorem dL_told_414 : decode cL_told 414 = .ok (.ifCond .eq 7, 3) := by decide +kernel
theorem dL_told_417 : decode cL_told 417 = .ok (.iconst (-1), 1) := by decide +kernel
theorem dL_told_418 : decode cL_told 418 = .ok (.goto 8, 3) := by decide +kernel
theorem dL_told_421 : decode cL_told 421 = .ok (.aload_n 2, 1) := by decide +kernel
theorem dL_told_422 : decode cL_told 422 = .ok (.lload_n 3, 1) := by decide +kernel
theorem dL_told_423 : decode cL_told 423 = .ok (.invokestatic 110, 3) := by decide +kernel
theorem dL_told_426 : decode cL_told 426 = .ok (.if_icmp .ne 25, 3) := by decide +kernel
theorem dL_told_429 : decode cL_told 429 = .ok (.aload_n 0, 1) := by decide +kernel
theorem dL_told_430 : decode cL_told 430 = .ok (.iconst 1, 1) := by decide +kernel
theorem dL_told_431 : decode cL_told 431 = .ok (.invokevirtual 142, 3) := by decide +kernel
theorem dL_told_434 : decode cL_told 434 = .ok (.iload 13, 2) := by decide +kernel
theorem dL_told_436 : decode cL_told 436 = .ok (.ifCond .eq 7, 3) := by decide +kernel
theorem dL_told_439 : decode cL_told 439 = .ok (.iconst (-1), 1) := by decide +kernel
theorem dL_told_440 : decode cL_told 440 = .ok (.goto 8, 3) := by decide +kernel
theorem dL_told_443 : decode cL_told 443 = .ok (.aload_n 2, 1) := by decide +kernel
theorem dL_told_444 : decode cL_told 444 = .ok (.lload_n 3, 1) := by decide +kernel
theorem dL_told_445 : decode cL_told 445 = .ok (.invokestatic 113, 3) := by decide +kernel
theorem dL_told_448 : decode cL_told 448 = .ok (.if_icmp .eq 5, 3) := by decide +kernel
theorem dL_told_451 : decode cL_told 451 = .ok (.iconst 0, 1) := by decide +kernel
theorem dL_told_452 : decode cL_told 452 = .ok (.ireturn, 1) := by decide +kernel
theorem dL_told_453 : decode cL_told 453 = .ok (.iload_n 1, 1) := by decide +kernel
theorem dL_told_454 : decode cL_told 454 = .ok (.iconst 2, 1) := by decide +kernel
theorem dL_told_455 : decode cL_told 455 = .ok (.invokestatic 145, 3) := by decide +kernel
theorem dL_told_458 : decode cL_told 458 = .ok (.istore 14, 2) := by decide +kernel
theorem dL_told_460 : decode cL_told 460 = .ok (.iload_n 1, 1) := by decide +kernel
theorem dL_told_461 : decode cL_told 461 = .ok (.iconst 2, 1) := by decide +kernel
theorem dL_told_462 : decode cL_told 462 = .ok (.ishr, 1) := by decide +kernel
theorem dL_told_463 : decode cL_told 463 = .ok (.iconst 2, 1) := by decide +kernel
theorem dL_told_464 : decode cL_told 464 = .ok (.invokestatic 145, 3) := by decide +kernel
theorem dL_told_467 : decode cL_told 467 = .ok (.istore 15, 2) := by decide +kernel
theorem dL_told_469 : decode cL_told 469 = .ok (.iload_n 1, 1) := by decide +kernel
theorem dL_told_470 : decode cL_told 470 = .ok (.iconst 4, 1) := by decide +kernel
theorem dL_told_471 : decode cL_told 471 = .ok (.ishr, 1) := by decide +kernel
theorem dL_told_472 : decode cL_told 472 = .ok (.iconst 3, 1) := by decide +kernel
theorem dL_told_473 : decode cL_told 473 = .ok (.invokestatic 145, 3) := by decide +kernel
theorem dL_told_476 : decode cL_told 476 = .ok (.istore 16, 2) := by decide +kernel
theorem dL_told_478 : decode cL_told 478 = .ok (.aload_n 0, 1) := by decide +kernel
theorem dL_told_479 : decode cL_told 479 = .ok (.iload 14, 2) := by decide +kernel
theorem dL_told_481 : decode cL_told 481 = .ok (.iload 15, 2) := by decide +kernel
theorem dL_told_483 : decode cL_told 483 = .ok (.iload 16, 2) := by decide +kernel
theorem dL_told_485 : decode cL_told 485 = .ok (.invokevirtual 148, 3) := by decide +kernel
theorem dL_told_488 : decode cL_told 488 = .ok (.aload_n 2, 1) := by decide +kernel
theorem dL_told_489 : decode cL_told 489 = .ok (.lload_n 3, 1) := by decide +kernel
theorem dL_told_490 : decode cL_told 490 = .ok (.iload 8, 2) := by decide +kernel
theorem dL_told_492 : decode cL_told 492 = .ok (.iload 9, 2) := by decide +kernel
theorem dL_told_494 : decode cL_told 494 = .ok (.isub, 1) := by decide +kernel
theorem dL_told_495 : decode cL_told 495 = .ok (.iload 14, 2) := by decide +kernel
theorem dL_told_497 : decode cL_told 497 = .ok (.iload 15, 2) := by decide +kernel
theorem dL_told_499 : decode cL_told 499 = .ok (.iload 16, 2) := by decide +kernel
theorem dL_told_501 : decode cL_told 501 = .ok (.invokestatic 152, 3) := by decide +kernel
theorem dL_told_504 : decode cL_told 504 = .ok (.if_icmp .eq 5, 3) := by decide +kernel
theorem dL_told_507 : decode cL_told 507 = .ok (.iconst 0, 1) := by decide +kernel
theorem dL_told_508 : decode cL_told 508 = .ok (.ireturn, 1) := by decide +kernel
theorem dL_told_509 : decode cL_told 509 = .ok (.iconst 1, 1) := by decide +kernel
theorem dL_told_510 : decode cL_told 510 = .ok (.iload_n 1, 1) := by decide +kernel
theorem dL_told_511 : decode cL_told 511 = .ok (.bipush 6, 2) := by decide +kernel
theorem dL_told_513 : decode cL_told 513 = .ok (.ishr, 1) := by decide +kernel
theorem dL_told_514 : decode cL_told 514 = .ok (.iconst 3, 1) := by decide +kernel
theorem dL_told_515 : decode cL_told 515 = .ok (.invokestatic 145, 3) := by decide +kernel
theorem dL_told_518 : decode cL_told 518 = .ok (.iadd, 1) := by decide +kernel
theorem dL_told_519 : decode cL_told 519 = .ok (.istore 17, 2) := by decide +kernel
theorem dL_told_521 : decode cL_told 521 = .ok (.aload_n 0, 1) := by decide +kernel
theorem dL_told_522 : decode cL_told 522 = .ok (.iload 17, 2) := by decide +kernel
theorem dL_told_524 : decode cL_told 524 = .ok (.iload_n 1, 1) := by decide +kernel
theorem dL_told_525 : decode cL_told 525 = .ok (.ldc 156, 2) := by decide +kernel
theorem dL_told_527 : decode cL_told 527 = .ok (.iand, 1) := by decide +kernel
theorem dL_told_528 : decode cL_told 528 = .ok (.invokevirtual 157, 3) := by decide +kernel
theorem dL_told_531 : decode cL_told 531 = .ok (.dconst 1, 1) := by decide +kernel
theorem dL_told_532 : decode cL_told 532 = .ok (.aload_n 2, 1) := by decide +kernel
theorem dL_told_533 : decode cL_told 533 = .ok (.lload_n 3, 1) := by decide +kernel
theorem dL_told_534 : decode cL_told 534 = .ok (.iload 8, 2) := by decide +kernel
theorem dL_told_536 : decode cL_told 536 = .ok (.iload 9, 2) := by decide +kernel
theorem dL_told_538 : decode cL_told 538 = .ok (.isub, 1) := by decide +kernel
theorem dL_told_539 : decode cL_told 539 = .ok (.iload 17, 2) := by decide +kernel
theorem dL_told_541 : decode cL_told 541 = .ok (.iload_n 1, 1) := by decide +kernel
theorem dL_told_542 : decode cL_told 542 = .ok (.ldc 156, 2) := by decide +kernel
theorem dL_told_544 : decode cL_told 544 = .ok (.iand, 1) := by decide +kernel
theorem dL_told_545 : decode cL_told 545 = .ok (.invokestatic 161, 3) := by decide +kernel
theorem dL_told_548 : decode cL_told 548 = .ok (.i2d, 1) := by decide +kernel
theorem dL_told_549 : decode cL_told 549 = .ok (.dmul, 1) := by decide +kernel
theorem dL_told_550 : decode cL_told 550 = .ok (.iload 17, 2) := by decide +kernel
theorem dL_told_552 : decode cL_told 552 = .ok (.i2d, 1) := by decide +kernel
theorem dL_told_553 : decode cL_told 553 = .ok (.ddiv, 1) := by decide +kernel
theorem dL_told_554 : decode cL_told 554 = .ok (.dcmp .l, 1) := by decide +kernel
theorem dL_told_555 : decode cL_told 555 = .ok (.ifCond .eq 5, 3) := by decide +kernel
theorem dL_told_558 : decode cL_told 558 = .ok (.iconst 0, 1) := by decide +kernel
theorem dL_told_559 : decode cL_told 559 = .ok (.ireturn, 1) := by decide +kernel
theorem dL_told_560 : decode cL_told 560 = .ok (.aload_n 2, 1) := by decide +kernel
theorem dL_told_561 : decode cL_told 561 = .ok (.invokestatic 31, 3) := by decide +kernel
theorem dL_told_564 : decode cL_told 564 = .ok (.aload_n 2, 1) := by decide +kernel
theorem dL_told_565 : decode cL_told 565 = .ok (.iconst 2, 1) := by decide +kernel
theorem dL_told_566 : decode cL_told 566 = .ok (.iaload, 1) := by decide +kernel
theorem dL_told_567 : decode cL_told 567 = .ok (.isub, 1) := by decide +kernel
theorem dL_told_568 : decode cL_told 568 = .ok (.bipush 6, 2) := by decide +kernel
theorem dL_told_570 : decode cL_told 570 = .ok (.if_icmp .le 5, 3) := by decide +kernel
theorem dL_told_573 : decode cL_told 573 = .ok (.iconst 1, 1) := by decide +kernel
theorem dL_told_574 : decode cL_told 574 = .ok (.ireturn, 1) := by decide +kernel
theorem dL_told_575 : decode cL_told 575 = .ok (.aload_n 0, 1) := by decide +kernel
theorem dL_told_576 : decode cL_told 576 = .ok (.invokevirtual 165, 3) := by decide +kernel
theorem dL_told_579 : decode cL_told 579 = .ok (.aload_n 2, 1) := by decide +kernel
theorem dL_told_580 : decode cL_told 580 = .ok (.lload_n 3, 1) := by decide +kernel
theorem dL_told_581 : decode cL_told 581 = .ok (.iconst (-1), 1) := by decide +kernel
theorem dL_told_582 : decode cL_told 582 = .ok (.invokestatic 168, 3) := by decide +kernel
theorem dL_told_585 : decode cL_told 585 = .ok (.if_icmp .eq 5, 3) := by decide +kernel
theorem dL_told_588 : decode cL_told 588 = .ok (.iconst 0, 1) := by decide +kernel
theorem dL_told_589 : decode cL_told 589 = .ok (.ireturn, 1) := by decide +kernel
theorem dL_told_590 : decode cL_told 590 = .ok (.iload 13, 2) := by decide +kernel
theorem dL_told_592 : decode cL_told 592 = .ok (.ifCond .eq 7, 3) := by decide +kernel
theorem dL_told_595 : decode cL_told 595 = .ok (.iconst (-1), 1) := by decide +kernel
theorem dL_told_596 : decode cL_told 596 = .ok (.goto 8, 3) := by decide +kernel
theorem dL_told_599 : decode cL_told 599 = .ok (.aload_n 0, 1) := by decide +kernel
theorem dL_told_600 : decode cL_told 600 = .ok (.iconst 2, 1) := by decide +kernel
theorem dL_told_601 : decode cL_told 601 = .ok (.invokevirtual 142, 3) := by decide +kernel
theorem dL_told_604 : decode cL_told 604 = .ok (.istore 18, 2) := by decide +kernel
theorem dL_told_606 : decode cL_told 606 = .ok (.iconst 0, 1) := by decide +kernel
theorem dL_told_607 : decode cL_told 607 = .ok (.istore 19, 2) := by decide +kernel
theorem dL_told_609 : decode cL_told 609 = .ok (.iload 19, 2) := by decide +kernel
theorem dL_told_611 : decode cL_told 611 = .ok (.aload_n 2, 1) := by decide +kernel
theorem dL_told_612 : decode cL_told 612 = .ok (.invokestatic 31, 3) := by decide +kernel
theorem dL_told_615 : decode cL_told 615 = .ok (.if_icmp .ge 75, 3) := by decide +kernel
theorem dL_told_618 : decode cL_told 618 = .ok (.lload_n 3, 1) := by decide +kernel
theorem dL_told_619 : decode cL_told 619 = .ok (.iload 19, 2) := by decide +kernel
theorem dL_told_621 : decode cL_told 621 = .ok (.invokestatic 14, 3) := by decide +kernel
theorem dL_told_624 : decode cL_told 624 = .ok (.ifCond .eq 6, 3) := by decide +kernel
theorem dL_told_627 : decode cL_told 627 = .ok (.goto 57, 3) := by decide +kernel
theorem dL_told_630 : decode cL_told 630 = .ok (.aload_n 2, 1) := by decide +kernel
theorem dL_told_631 : decode cL_told 631 = .ok (.lload_n 3, 1) := by decide +kernel
theorem dL_told_632 : decode cL_told 632 = .ok (.iload 19, 2) := by decide +kernel
theorem dL_told_634 : decode cL_told 634 = .ok (.invokestatic 168, 3) := by decide +kernel
theorem dL_told_637 : decode cL_told 637 = .ok (.istore 20, 2) := by decide +kernel
theorem dL_told_639 : decode cL_told 639 = .ok (.aload_n 0, 1) := by decide +kernel
theorem dL_told_640 : decode cL_told 640 = .ok (.iload 19, 2) := by decide +kernel
theorem dL_told_642 : decode cL_told 642 = .ok (.invokevirtual 172, 3) := by decide +kernel
theorem dL_told_645 : decode cL_told 645 = .ok (.iload 20, 2) := by decide +kernel
theorem dL_told_647 : decode cL_told 647 = .ok (.if_icmp .ne 35, 3) := by decide +kernel
theorem dL_told_650 : decode cL_told 650 = .ok (.iload 20, 2) := by decide +kernel
theorem dL_told_652 : decode cL_told 652 = .ok (.aload_n 0, 1) := by decide +kernel
theorem dL_told_653 : decode cL_told 653 = .ok (.invokevirtual 165, 3) := by decide +kernel
theorem dL_told_656 : decode cL_told 656 = .ok (.if_icmp .ne 10, 3) := by decide +kernel
theorem dL_told_659 : decode cL_told 659 = .ok (.iload 19, 2) := by decide +kernel
theorem dL_told_661 : decode cL_told 661 = .ok (.iload 18, 2) := by decide +kernel
theorem dL_told_663 : decode cL_told 663 = .ok (.if_icmp .lt 19, 3) := by decide +kernel
theorem dL_told_666 : decode cL_told 666 = .ok (.iload 19, 2) := by decide +kernel
theorem dL_told_668 : decode cL_told 668 = .ok (.iload 18, 2) := by decide +kernel
theorem dL_told_670 : decode cL_told 670 = .ok (.if_icmp .ne 14, 3) := by decide +kernel
theorem dL_told_673 : decode cL_told 673 = .ok (.iload 20, 2) := by decide +kernel
theorem dL_told_675 : decode cL_told 675 = .ok (.aload_n 0, 1) := by decide +kernel
theorem dL_told_676 : decode cL_told 676 = .ok (.invokevirtual 165, 3) := by decide +kernel
theorem dL_told_679 : decode cL_told 679 = .ok (.if_icmp .eq 5, 3) := by decide +kernel
theorem dL_told_682 : decode cL_told 682 = .ok (.iconst 0, 1) := by decide +kernel
theorem dL_told_683 : decode cL_told 683 = .ok (.ireturn, 1) := by decide +kernel
theorem dL_told_684 : decode cL_told 684 = .ok (.iinc 19 1, 3) := by decide +kernel
theorem dL_told_687 : decode cL_told 687 = .ok (.goto (-78), 3) := by decide +kernel
theorem dL_told_690 : decode cL_told 690 = .ok (.iconst 1, 1) := by decide +kernel
theorem dL_told_691 : decode cL_told 691 = .ok (.ireturn, 1) := by decide +kernel
set_option maxRecDepth 20000 in
theorem ggL_draw_L_gain : GoodIn wsL_draw wsL_gain := goodIn_r _ [4, 5, 6, 3, 7, 8, 9, 10, 11, 12, 13, 14, 15, 16, 17, 18, 19] (by decide +kernel) (by decide +kernel)
set_option maxRecDepth 20000 in
theorem gL_draw_L_gain : GoodIn wsL_draw (va_wsS RL 28 yL_gain wsL_gain) := goodIn_app (goodIn_of _ (by decide +kernel)) ggL_draw_L_gain
set_option maxRecDepth 20000 in
theorem ggL_draw_L_open : GoodIn wsL_draw wsL_open := goodIn_r _ [13, 14, 15, 3, 16, 8, 9, 10, 17, 18, 19] (by decide +kernel) (by decide +kernel)
set_option maxRecDepth 20000 in
theorem gL_draw_L_open : GoodIn wsL_draw (va_wsS RL 21 yL_open wsL_open) := goodIn_app (goodIn_of _ (by decide +kernel)) ggL_draw_L_open
theorem dL_draw_0 : decode cL_draw 0 = .ok (.aload_n 0, 1) := by decide +kernel
theorem dL_draw_1 : decode cL_draw 1 = .ok (.iload_n 1, 1) := by decide +kernel
theorem dL_draw_2 : decode cL_draw 2 = .ok (.lload_n 2, 1) := by decide +kernel
theorem dL_draw_3 : decode cL_draw 3 = .ok (.invokestatic 28, 3) := by decide +kernel
theorem dL_draw_6 : decode cL_draw 6 = .ok (.istore 7, 2) := by decide +kernel
theorem dL_draw_8 : decode cL_draw 8 = .ok (.iconst 0, 1) := by decide +kernel
theorem dL_draw_9 : decode cL_draw 9 = .ok (.istore 8, 2) := by decide +kernel
theorem dL_draw_11 : decode cL_draw 11 = .ok (.iload 8, 2) := by decide +kernel
theorem dL_draw_13 : decode cL_draw 13 = .ok (.aload_n 0, 1) := by decide +kernel
theorem dL_draw_14 : decode cL_draw 14 = .ok (.iconst 0, 1) := by decide +kernel
theorem dL_draw_15 : decode cL_draw 15 = .ok (.iaload, 1) := by decide +kernel
theorem dL_draw_16 : decode cL_draw 16 = .ok (.aload_n 0, 1) := by decide +kernel
theorem dL_draw_17 : decode cL_draw 17 = .ok (.iconst 1, 1) := by decide +kernel
theorem dL_draw_18 : decode cL_draw 18 = .ok (.iaload, 1) := by decide +kernel
theorem dL_draw_19 : decode cL_draw 19 = .ok (.imul, 1) := by decide +kernel
theorem dL_draw_20 : decode cL_draw 20 = .ok (.if_icmp .ge 42, 3) := by decide +kernel
theorem dL_draw_23 : decode cL_draw 23 = .ok (.aload_n 0, 1) := by decide +kernel
theorem dL_draw_24 : decode cL_draw 24 = .ok (.iload 8, 2) := by decide +kernel
theorem dL_draw_26 : decode cL_draw 26 = .ok (.lload_n 2, 1) := by decide +kernel
theorem dL_draw_27 : decode cL_draw 27 = .ok (.invokestatic 21, 3) := by decide +kernel
theorem dL_draw_30 : decode cL_draw 30 = .ok (.iconst 1, 1) := by decide +kernel
theorem dL_draw_31 : decode cL_draw 31 = .ok (.if_icmp .ne 25, 3) := by decide +kernel
theorem dL_draw_34 : decode cL_draw 34 = .ok (.aload_n 0, 1) := by decide +kernel
theorem dL_draw_35 : decode cL_draw 35 = .ok (.iload 8, 2) := by decide +kernel
theorem dL_draw_37 : decode cL_draw 37 = .ok (.lload_n 2, 1) := by decide +kernel
theorem dL_draw_38 : decode cL_draw 38 = .ok (.lconst 1, 1) := by decide +kernel
theorem dL_draw_39 : decode cL_draw 39 = .ok (.iload_n 1, 1) := by decide +kernel
theorem dL_draw_40 : decode cL_draw 40 = .ok (.lshl, 1) := by decide +kernel
theorem dL_draw_41 : decode cL_draw 41 = .ok (.lor, 1) := by decide +kernel
theorem dL_draw_42 : decode cL_draw 42 = .ok (.invokestatic 21, 3) := by decide +kernel
theorem dL_draw_45 : decode cL_draw 45 = .ok (.ifCond .ne 11, 3) := by decide +kernel
theorem dL_draw_48 : decode cL_draw 48 = .ok (.aload 4, 2) := by decide +kernel
theorem dL_draw_50 : decode cL_draw 50 = .ok (.iload 8, 2) := by decide +kernel
theorem dL_draw_52 : decode cL_draw 52 = .ok (.aload_n 0, 1) := by decide +kernel
theorem dL_draw_53 : decode cL_draw 53 = .ok (.iconst 3, 1) := by decide +kernel
theorem dL_draw_54 : decode cL_draw 54 = .ok (.iaload, 1) := by decide +kernel
theorem dL_draw_55 : decode cL_draw 55 = .ok (.iastore, 1) := by decide +kernel
theorem dL_draw_56 : decode cL_draw 56 = .ok (.iinc 8 1, 3) := by decide +kernel
theorem dL_draw_59 : decode cL_draw 59 = .ok (.goto (-48), 3) := by decide +kernel
theorem dL_draw_62 : decode cL_draw 62 = .ok (.aload 5, 2) := by decide +kernel
theorem dL_draw_64 : decode cL_draw 64 = .ok (.aload_n 0, 1) := by decide +kernel
theorem dL_draw_65 : decode cL_draw 65 = .ok (.iconst 2, 1) := by decide +kernel
theorem dL_draw_66 : decode cL_draw 66 = .ok (.iaload, 1) := by decide +kernel
theorem dL_draw_67 : decode cL_draw 67 = .ok (.iload_n 1, 1) := by decide +kernel
theorem dL_draw_68 : decode cL_draw 68 = .ok (.iastore, 1) := by decide +kernel
theorem dL_draw_69 : decode cL_draw 69 = .ok (.aload 6, 2) := by decide +kernel
theorem dL_draw_71 : decode cL_draw 71 = .ok (.aload_n 0, 1) := by decide +kernel
theorem dL_draw_72 : decode cL_draw 72 = .ok (.iconst 2, 1) := by decide +kernel
theorem dL_draw_73 : decode cL_draw 73 = .ok (.iaload, 1) := by decide +kernel
theorem dL_draw_74 : decode cL_draw 74 = .ok (.aload_n 0, 1) := by decide +kernel
theorem dL_draw_75 : decode cL_draw 75 = .ok (.iconst 3, 1) := by decide +kernel
theorem dL_draw_76 : decode cL_draw 76 = .ok (.iaload, 1) := by decide +kernel
theorem dL_draw_77 : decode cL_draw 77 = .ok (.iastore, 1) := by decide +kernel
theorem dL_draw_78 : decode cL_draw 78 = .ok (.aload_n 0, 1) := by decide +kernel
theorem dL_draw_79 : decode cL_draw 79 = .ok (.iconst 2, 1) := by decide +kernel
theorem dL_draw_80 : decode cL_draw 80 = .ok (.dup2, 1) := by decide +kernel
theorem dL_draw_81 : decode cL_draw 81 = .ok (.iaload, 1) := by decide +kernel
theorem dL_draw_82 : decode cL_draw 82 = .ok (.iconst 1, 1) := by decide +kernel
theorem dL_draw_83 : decode cL_draw 83 = .ok (.iadd, 1) := by decide +kernel
theorem dL_draw_84 : decode cL_draw 84 = .ok (.iastore, 1) := by decide +kernel
theorem dL_draw_85 : decode cL_draw 85 = .ok (.iload 7, 2) := by decide +kernel
theorem dL_draw_87 : decode cL_draw 87 = .ok (.ifCond .ne 11, 3) := by decide +kernel
theorem dL_draw_90 : decode cL_draw 90 = .ok (.aload_n 0, 1) := by decide +kernel
theorem dL_draw_91 : decode cL_draw 91 = .ok (.iconst 3, 1) := by decide +kernel
theorem dL_draw_92 : decode cL_draw 92 = .ok (.iconst 1, 1) := by decide +kernel
theorem dL_draw_93 : decode cL_draw 93 = .ok (.aload_n 0, 1) := by decide +kernel
theorem dL_draw_94 : decode cL_draw 94 = .ok (.iconst 3, 1) := by decide +kernel
theorem dL_draw_95 : decode cL_draw 95 = .ok (.iaload, 1) := by decide +kernel
theorem dL_draw_96 : decode cL_draw 96 = .ok (.isub, 1) := by decide +kernel
theorem dL_draw_97 : decode cL_draw 97 = .ok (.iastore, 1) := by decide +kernel
theorem dL_draw_98 : decode cL_draw 98 = .ok (.lload_n 2, 1) := by decide +kernel
theorem dL_draw_99 : decode cL_draw 99 = .ok (.lconst 1, 1) := by decide +kernel
theorem dL_draw_100 : decode cL_draw 100 = .ok (.iload_n 1, 1) := by decide +kernel
theorem dL_draw_101 : decode cL_draw 101 = .ok (.lshl, 1) := by decide +kernel
theorem dL_draw_102 : decode cL_draw 102 = .ok (.lor, 1) := by decide +kernel
theorem dL_draw_103 : decode cL_draw 103 = .ok (.lreturn, 1) := by decide +kernel
