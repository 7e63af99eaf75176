theorem dL_joins_21 : decode cL_joins 21 = .ok (.iaload, 1) := by decide +kernel
theorem dL_joins_22 : decode cL_joins 22 = .ok (.if_icmp .ne 5, 3) := by decide +kernel
theorem dL_joins_25 : decode cL_joins 25 = .ok (.iconst 0, 1) := by decide +kernel
theorem dL_joins_26 : decode cL_joins 26 = .ok (.ireturn, 1) := by decide +kernel
theorem dL_joins_27 : decode cL_joins 27 = .ok (.aload_n 0, 1) := by decide +kernel
theorem dL_joins_28 : decode cL_joins 28 = .ok (.iload_n 1, 1) := by decide +kernel
theorem dL_joins_29 : decode cL_joins 29 = .ok (.iaload, 1) := by decide +kernel
theorem dL_joins_30 : decode cL_joins 30 = .ok (.aload_n 0, 1) := by decide +kernel
theorem dL_joins_31 : decode cL_joins 31 = .ok (.iload_n 2, 1) := by decide +kernel
theorem dL_joins_32 : decode cL_joins 32 = .ok (.iaload, 1) := by decide +kernel
theorem dL_joins_33 : decode cL_joins 33 = .ok (.if_icmp .ge 9, 3) := by decide +kernel
theorem dL_joins_36 : decode cL_joins 36 = .ok (.aload_n 0, 1) := by decide +kernel
theorem dL_joins_37 : decode cL_joins 37 = .ok (.iload_n 1, 1) := by decide +kernel
theorem dL_joins_38 : decode cL_joins 38 = .ok (.iaload, 1) := by decide +kernel
theorem dL_joins_39 : decode cL_joins 39 = .ok (.goto 6, 3) := by decide +kernel
theorem dL_joins_42 : decode cL_joins 42 = .ok (.aload_n 0, 1) := by decide +kernel
theorem dL_joins_43 : decode cL_joins 43 = .ok (.iload_n 2, 1) := by decide +kernel
theorem dL_joins_44 : decode cL_joins 44 = .ok (.iaload, 1) := by decide +kernel
theorem dL_joins_45 : decode cL_joins 45 = .ok (.istore_n 3, 1) := by decide +kernel
theorem dL_joins_46 : decode cL_joins 46 = .ok (.aload_n 0, 1) := by decide +kernel
theorem dL_joins_47 : decode cL_joins 47 = .ok (.iload_n 1, 1) := by decide +kernel
theorem dL_joins_48 : decode cL_joins 48 = .ok (.iload_n 3, 1) := by decide +kernel
theorem dL_joins_49 : decode cL_joins 49 = .ok (.iastore, 1) := by decide +kernel
theorem dL_joins_50 : decode cL_joins 50 = .ok (.aload_n 0, 1) := by decide +kernel
theorem dL_joins_51 : decode cL_joins 51 = .ok (.iload_n 2, 1) := by decide +kernel
theorem dL_joins_52 : decode cL_joins 52 = .ok (.iload_n 3, 1) := by decide +kernel
theorem dL_joins_53 : decode cL_joins 53 = .ok (.iastore, 1) := by decide +kernel
theorem dL_joins_54 : decode cL_joins 54 = .ok (.iconst 1, 1) := by decide +kernel
theorem dL_joins_55 : decode cL_joins 55 = .ok (.ireturn, 1) := by decide +kernel
set_option maxRecDepth 20000 in
theorem ggL_property_L_open : GoodIn wsL_property wsL_open := goodIn_r _ [4, 5, 6, 3, 7, 8, 9, 10, 11, 12, 13] (by decide +kernel) (by decide +kernel)
set_option maxRecDepth 20000 in
theorem gL_property_L_open : GoodIn wsL_property (va_wsS RL 21 yL_open wsL_open) := goodIn_app (goodIn_of _ (by decide +kernel)) ggL_property_L_open
set_option maxRecDepth 20000 in
theorem ggL_property_L_lines : GoodIn wsL_property wsL_lines := goodIn_r _ [16] (by decide +kernel) (by decide +kernel)
set_option maxRecDepth 20000 in
theorem gL_property_L_lines : GoodIn wsL_property (va_wsS RL 31 yL_lines wsL_lines) := goodIn_app (goodIn_of _ (by decide +kernel)) ggL_property_L_lines
set_option maxRecDepth 20000 in
theorem ggL_property_L_has : GoodIn wsL_property wsL_has := goodIn_r _ [10] (by decide +kernel) (by decide +kernel)
set_option maxRecDepth 20000 in
theorem gL_property_L_has : GoodIn wsL_property (va_wsS RL 14 yL_has wsL_has) := goodIn_app (goodIn_of _ (by decide +kernel)) ggL_property_L_has
set_option maxRecDepth 20000 in
theorem ggL_property_L_isSide : GoodIn wsL_property wsL_isSide := goodIn_r _ [19, 5, 6, 3, 7, 11, 12, 13] (by decide +kernel) (by decide +kernel)
set_option maxRecDepth 20000 in
theorem gL_property_L_isSide : GoodIn wsL_property (va_wsS RL 48 yL_isSide wsL_isSide) := goodIn_app (goodIn_of _ (by decide +kernel)) ggL_property_L_isSide
theorem dL_property_0 : decode cL_property 0 = .ok (.iconst 0, 1) := by decide +kernel
theorem dL_property_1 : decode cL_property 1 = .ok (.istore 6, 2) := by decide +kernel
theorem dL_property_3 : decode cL_property 3 = .ok (.iconst 0, 1) := by decide +kernel
theorem dL_property_4 : decode cL_property 4 = .ok (.istore 7, 2) := by decide +kernel
theorem dL_property_6 : decode cL_property 6 = .ok (.iconst 0, 1) := by decide +kernel
theorem dL_property_7 : decode cL_property 7 = .ok (.istore 8, 2) := by decide +kernel
theorem dL_property_9 : decode cL_property 9 = .ok (.iconst 0, 1) := by decide +kernel
theorem dL_property_10 : decode cL_property 10 = .ok (.istore 9, 2) := by decide +kernel
theorem dL_property_12 : decode cL_property 12 = .ok (.iconst 1, 1) := by decide +kernel
theorem dL_property_13 : decode cL_property 13 = .ok (.istore 10, 2) := by decide +kernel
theorem dL_property_15 : decode cL_property 15 = .ok (.iconst 0, 1) := by decide +kernel
theorem dL_property_16 : decode cL_property 16 = .ok (.istore 11, 2) := by decide +kernel
theorem dL_property_18 : decode cL_property 18 = .ok (.iload 11, 2) := by decide +kernel
theorem dL_property_20 : decode cL_property 20 = .ok (.aload_n 0, 1) := by decide +kernel
theorem dL_property_21 : decode cL_property 21 = .ok (.iconst 0, 1) := by decide +kernel
theorem dL_property_22 : decode cL_property 22 = .ok (.iaload, 1) := by decide +kernel
theorem dL_property_23 : decode cL_property 23 = .ok (.aload_n 0, 1) := by decide +kernel
theorem dL_property_24 : decode cL_property 24 = .ok (.iconst 1, 1) := by decide +kernel
theorem dL_property_25 : decode cL_property 25 = .ok (.iaload, 1) := by decide +kernel
theorem dL_property_26 : decode cL_property 26 = .ok (.imul, 1) := by decide +kernel
theorem dL_property_27 : decode cL_property 27 = .ok (.if_icmp .ge 35, 3) := by decide +kernel
theorem dL_property_30 : decode cL_property 30 = .ok (.aload_n 3, 1) := by decide +kernel
theorem dL_property_31 : decode cL_property 31 = .ok (.iload 11, 2) := by decide +kernel
theorem dL_property_33 : decode cL_property 33 = .ok (.iaload, 1) := by decide +kernel
theorem dL_property_34 : decode cL_property 34 = .ok (.iload 4, 2) := by decide +kernel
theorem dL_property_36 : decode cL_property 36 = .ok (.if_icmp .ne 20, 3) := by decide +kernel
theorem dL_property_39 : decode cL_property 39 = .ok (.iinc 6 1, 3) := by decide +kernel
theorem dL_property_42 : decode cL_property 42 = .ok (.aload_n 0, 1) := by decide +kernel
theorem dL_property_43 : decode cL_property 43 = .ok (.iload 11, 2) := by decide +kernel
theorem dL_property_45 : decode cL_property 45 = .ok (.lload_n 1, 1) := by decide +kernel
theorem dL_property_46 : decode cL_property 46 = .ok (.invokestatic 21, 3) := by decide +kernel
theorem dL_property_49 : decode cL_property 49 = .ok (.iconst 1, 1) := by decide +kernel
theorem dL_property_50 : decode cL_property 50 = .ok (.if_icmp .ne 6, 3) := by decide +kernel
theorem dL_property_53 : decode cL_property 53 = .ok (.iinc 7 1, 3) := by decide +kernel
theorem dL_property_56 : decode cL_property 56 = .ok (.iinc 11 1, 3) := by decide +kernel
theorem dL_property_59 : decode cL_property 59 = .ok (.goto (-41), 3) := by decide +kernel
theorem dL_property_62 : decode cL_property 62 = .ok (.iconst 0, 1) := by decide +kernel
theorem dL_property_63 : decode cL_property 63 = .ok (.istore 11, 2) := by decide +kernel
theorem dL_property_65 : decode cL_property 65 = .ok (.iload 11, 2) := by decide +kernel
theorem dL_property_67 : decode cL_property 67 = .ok (.aload_n 0, 1) := by decide +kernel
theorem dL_property_68 : decode cL_property 68 = .ok (.invokestatic 31, 3) := by decide +kernel
theorem dL_property_71 : decode cL_property 71 = .ok (.if_icmp .ge 102, 3) := by decide +kernel
theorem dL_property_74 : decode cL_property 74 = .ok (.iconst 0, 1) := by decide +kernel
theorem dL_property_75 : decode cL_property 75 = .ok (.istore 12, 2) := by decide +kernel
theorem dL_property_77 : decode cL_property 77 = .ok (.iconst 0, 1) := by decide +kernel
theorem dL_property_78 : decode cL_property 78 = .ok (.istore 13, 2) := by decide +kernel
theorem dL_property_80 : decode cL_property 80 = .ok (.iconst 0, 1) := by decide +kernel
theorem dL_property_81 : decode cL_property 81 = .ok (.istore 14, 2) := by decide +kernel
theorem dL_property_83 : decode cL_property 83 = .ok (.iload 14, 2) := by decide +kernel
theorem dL_property_85 : decode cL_property 85 = .ok (.aload_n 0, 1) := by decide +kernel
theorem dL_property_86 : decode cL_property 86 = .ok (.iconst 0, 1) := by decide +kernel
theorem dL_property_87 : decode cL_property 87 = .ok (.iaload, 1) := by decide +kernel
theorem dL_property_88 : decode cL_property 88 = .ok (.aload_n 0, 1) := by decide +kernel
theorem dL_property_89 : decode cL_property 89 = .ok (.iconst 1, 1) := by decide +kernel
theorem dL_property_90 : decode cL_property 90 = .ok (.iaload, 1) := by decide +kernel
theorem dL_property_91 : decode cL_property 91 = .ok (.imul, 1) := by decide +kernel
theorem dL_property_92 : decode cL_property 92 = .ok (.if_icmp .ge 47, 3) := by decide +kernel
theorem dL_property_95 : decode cL_property 95 = .ok (.lload_n 1, 1) := by decide +kernel
theorem dL_property_96 : decode cL_property 96 = .ok (.iload 11, 2) := by decide +kernel
theorem dL_property_98 : decode cL_property 98 = .ok (.invokestatic 14, 3) := by decide +kernel
theorem dL_property_101 : decode cL_property 101 = .ok (.ifCond .ne 32, 3) := by decide +kernel
theorem dL_property_104 : decode cL_property 104 = .ok (.aload_n 0, 1) := by decide +kernel
theorem dL_property_105 : decode cL_property 105 = .ok (.iload 11, 2) := by decide +kernel
theorem dL_property_107 : decode cL_property 107 = .ok (.iload 14, 2) := by decide +kernel
theorem dL_property_109 : decode cL_property 109 = .ok (.invokestatic 48, 3) := by decide +kernel
theorem dL_property_112 : decode cL_property 112 = .ok (.ifCond .eq 21, 3) := by decide +kernel
theorem dL_property_115 : decode cL_property 115 = .ok (.aload_n 3, 1) := by decide +kernel
theorem dL_property_116 : decode cL_property 116 = .ok (.iload 14, 2) := by decide +kernel
theorem dL_property_118 : decode cL_property 118 = .ok (.iaload, 1) := by decide +kernel
theorem dL_property_119 : decode cL_property 119 = .ok (.iload 4, 2) := by decide +kernel
theorem dL_property_121 : decode cL_property 121 = .ok (.if_icmp .ne 9, 3) := by decide +kernel
theorem dL_property_124 : decode cL_property 124 = .ok (.iinc 12 1, 3) := by decide +kernel
theorem dL_property_127 : decode cL_property 127 = .ok (.goto 6, 3) := by decide +kernel
theorem dL_property_130 : decode cL_property 130 = .ok (.iinc 13 1, 3) := by decide +kernel
theorem dL_property_133 : decode cL_property 133 = .ok (.iinc 14 1, 3) := by decide +kernel
theorem dL_property_136 : decode cL_property 136 = .ok (.goto (-53), 3) := by decide +kernel
theorem dL_property_139 : decode cL_property 139 = .ok (.iload 12, 2) := by decide +kernel
theorem dL_property_141 : decode cL_property 141 = .ok (.ifCond .ne 6, 3) := by decide +kernel
theorem dL_property_144 : decode cL_property 144 = .ok (.goto 23, 3) := by decide +kernel
theorem dL_property_147 : decode cL_property 147 = .ok (.iinc 8 1, 3) := by decide +kernel
theorem dL_property_150 : decode cL_property 150 = .ok (.iload 12, 2) := by decide +kernel
theorem dL_property_152 : decode cL_property 152 = .ok (.iconst 1, 1) := by decide +kernel
theorem dL_property_153 : decode cL_property 153 = .ok (.if_icmp .ne 6, 3) := by decide +kernel
theorem dL_property_156 : decode cL_property 156 = .ok (.iconst 0, 1) := by decide +kernel
theorem dL_property_157 : decode cL_property 157 = .ok (.istore 10, 2) := by decide +kernel
theorem dL_property_159 : decode cL_property 159 = .ok (.iload 13, 2) := by decide +kernel
theorem dL_property_161 : decode cL_property 161 = .ok (.ifCond .le 6, 3) := by decide +kernel
theorem dL_property_164 : decode cL_property 164 = .ok (.iinc 9 1, 3) := by decide +kernel
theorem dL_property_167 : decode cL_property 167 = .ok (.iinc 11 1, 3) := by decide +kernel
theorem dL_property_170 : decode cL_property 170 = .ok (.goto (-105), 3) := by decide +kernel
theorem dL_property_173 : decode cL_property 173 = .ok (.iload 5, 2) := by decide +kernel
theorem dL_property_175 : decode cL_property 175 = .ok (.ifCond .ne 8, 3) := by decide +kernel
theorem dL_property_178 : decode cL_property 178 = .ok (.iload 6, 2) := by decide +kernel
theorem dL_property_180 : decode cL_property 180 = .ok (.goto 59, 3) := by decide +kernel
theorem dL_property_183 : decode cL_property 183 = .ok (.iload 5, 2) := by decide +kernel
theorem dL_property_185 : decode cL_property 185 = .ok (.iconst 1, 1) := by decide +kernel
theorem dL_property_186 : decode cL_property 186 = .ok (.if_icmp .ne 21, 3) := by decide +kernel
theorem dL_property_189 : decode cL_property 189 = .ok (.iload 10, 2) := by decide +kernel
theorem dL_property_191 : decode cL_property 191 = .ok (.ifCond .eq 12, 3) := by decide +kernel
theorem dL_property_194 : decode cL_property 194 = .ok (.iload 7, 2) := by decide +kernel
theorem dL_property_196 : decode cL_property 196 = .ok (.ifCond .ne 7, 3) := by decide +kernel
theorem dL_property_199 : decode cL_property 199 = .ok (.iconst 1, 1) := by decide +kernel
theorem dL_property_200 : decode cL_property 200 = .ok (.goto 39, 3) := by decide +kernel
theorem dL_property_203 : decode cL_property 203 = .ok (.iconst 0, 1) := by decide +kernel
theorem dL_property_204 : decode cL_property 204 = .ok (.goto 35, 3) := by decide +kernel
theorem dL_property_207 : decode cL_property 207 = .ok (.iload 5, 2) := by decide +kernel
theorem dL_property_209 : decode cL_property 209 = .ok (.iconst 2, 1) := by decide +kernel
theorem dL_property_210 : decode cL_property 210 = .ok (.if_icmp .ne 16, 3) := by decide +kernel
theorem dL_property_213 : decode cL_property 213 = .ok (.iload 7, 2) := by decide +kernel
theorem dL_property_215 : decode cL_property 215 = .ok (.ifCond .le 7, 3) := by decide +kernel
theorem dL_property_218 : decode cL_property 218 = .ok (.iconst 1, 1) := by decide +kernel
theorem dL_property_219 : decode cL_property 219 = .ok (.goto 20, 3) := by decide +kernel
theorem dL_property_222 : decode cL_property 222 = .ok (.iconst 0, 1) := by decide +kernel
theorem dL_property_223 : decode cL_property 223 = .ok (.goto 16, 3) := by decide +kernel
theorem dL_property_226 : decode cL_property 226 = .ok (.iload 5, 2) := by decide +kernel
theorem dL_property_228 : decode cL_property 228 = .ok (.iconst 3, 1) := by decide +kernel
theorem dL_property_229 : decode cL_property 229 = .ok (.if_icmp .ne 8, 3) := by decide +kernel
theorem dL_property_232 : decode cL_property 232 = .ok (.iload 8, 2) := by decide +kernel
theorem dL_property_234 : decode cL_property 234 = .ok (.goto 5, 3) := by decide +kernel
theorem dL_property_237 : decode cL_property 237 = .ok (.iload 9, 2) := by decide +kernel
theorem dL_property_239 : decode cL_property 239 = .ok (.ireturn, 1) := by decide +kernel
theorem dL_predicted_0 : decode cL_predicted 0 = .ok (.bipush 64, 2) := by decide +kernel
theorem dL_predicted_2 : decode cL_predicted 2 = .ok (.newarray .int, 2) := by decide +kernel
theorem dL_predicted_4 : decode cL_predicted 4 = .ok (.astore_n 3, 1) := by decide +kernel
theorem dL_predicted_5 : decode cL_predicted 5 = .ok (.iconst 1, 1) := by decide +kernel
theorem dL_predicted_6 : decode cL_predicted 6 = .ok (.istore 4, 2) := by decide +kernel
theorem dL_predicted_8 : decode cL_predicted 8 = .ok (.iload 4, 2) := by decide +kernel
theorem dL_predicted_10 : decode cL_predicted 10 = .ok (.iconst 1, 1) := by decide +kernel
theorem dL_predicted_11 : decode cL_predicted 11 = .ok (.iload_n 2, 1) := by decide +kernel
theorem dL_predicted_12 : decode cL_predicted 12 = .ok (.ishl, 1) := by decide +kernel
theorem dL_predicted_13 : decode cL_predicted 13 = .ok (.if_icmp .ge 136, 3) := by decide +kernel
theorem dL_predicted_16 : decode cL_predicted 16 = .ok (.aload_n 3, 1) := by decide +kernel
theorem dL_predicted_17 : decode cL_predicted 17 = .ok (.iload 4, 2) := by decide +kernel
theorem dL_predicted_19 : decode cL_predicted 19 = .ok (.sipush 999, 3) := by decide +kernel
theorem dL_predicted_22 : decode cL_predicted 22 = .ok (.iastore, 1) := by decide +kernel
theorem dL_predicted_23 : decode cL_predicted 23 = .ok (.iconst 0, 1) := by decide +kernel
theorem dL_predicted_24 : decode cL_predicted 24 = .ok (.istore 5, 2) := by decide +kernel
theorem dL_predicted_26 : decode cL_predicted 26 = .ok (.iload 5, 2) := by decide +kernel
theorem dL_predicted_28 : decode cL_predicted 28 = .ok (.iload_n 2, 1) := by decide +kernel
theorem dL_predicted_29 : decode cL_predicted 29 = .ok (.if_icmp .ge 114, 3) := by decide +kernel
theorem dL_predicted_32 : decode cL_predicted 32 = .ok (.iload 4, 2) := by decide +kernel
theorem dL_predicted_34 : decode cL_predicted 34 = .ok (.iload 5, 2) := by decide +kernel
theorem dL_predicted_36 : decode cL_predicted 36 = .ok (.ishr, 1) := by decide +kernel
theorem dL_predicted_37 : decode cL_predicted 37 = .ok (.iconst 1, 1) := by decide +kernel
theorem dL_predicted_38 : decode cL_predicted 38 = .ok (.iand, 1) := by decide +kernel
theorem dL_predicted_39 : decode cL_predicted 39 = .ok (.ifCond .ne 6, 3) := by decide +kernel
theorem dL_predicted_42 : decode cL_predicted 42 = .ok (.goto 95, 3) := by decide +kernel
theorem dL_predicted_45 : decode cL_predicted 45 = .ok (.aload_n 3, 1) := by decide +kernel
theorem dL_predicted_46 : decode cL_predicted 46 = .ok (.iload 4, 2) := by decide +kernel
theorem dL_predicted_48 : decode cL_predicted 48 = .ok (.iconst 1, 1) := by decide +kernel
theorem dL_predicted_49 : decode cL_predicted 49 = .ok (.iload 5, 2) := by decide +kernel
theorem dL_predicted_51 : decode cL_predicted 51 = .ok (.ishl, 1) := by decide +kernel
theorem dL_predicted_52 : decode cL_predicted 52 = .ok (.iconst (-1), 1) := by decide +kernel
theorem dL_predicted_53 : decode cL_predicted 53 = .ok (.ixor, 1) := by decide +kernel
theorem dL_predicted_54 : decode cL_predicted 54 = .ok (.iand, 1) := by decide +kernel
theorem dL_predicted_55 : decode cL_predicted 55 = .ok (.iaload, 1) := by decide +kernel
theorem dL_predicted_56 : decode cL_predicted 56 = .ok (.istore 6, 2) := by decide +kernel
theorem dL_predicted_58 : decode cL_predicted 58 = .ok (.aload_n 0, 1) := by decide +kernel
theorem dL_predicted_59 : decode cL_predicted 59 = .ok (.iload 5, 2) := by decide +kernel
theorem dL_predicted_61 : decode cL_predicted 61 = .ok (.iaload, 1) := by decide +kernel
theorem dL_predicted_62 : decode cL_predicted 62 = .ok (.aload_n 1, 1) := by decide +kernel
theorem dL_predicted_63 : decode cL_predicted 63 = .ok (.iload 5, 2) := by decide +kernel
theorem dL_predicted_65 : decode cL_predicted 65 = .ok (.iaload, 1) := by decide +kernel
theorem dL_predicted_66 : decode cL_predicted 66 = .ok (.iconst 1, 1) := by decide +kernel
theorem dL_predicted_67 : decode cL_predicted 67 = .ok (.if_icmp .ne 8, 3) := by decide +kernel
theorem dL_predicted_70 : decode cL_predicted 70 = .ok (.bipush 8, 2) := by decide +kernel
theorem dL_predicted_72 : decode cL_predicted 72 = .ok (.goto 4, 3) := by decide +kernel
theorem dL_predicted_75 : decode cL_predicted 75 = .ok (.iconst 4, 1) := by decide +kernel
theorem dL_predicted_76 : decode cL_predicted 76 = .ok (.isub, 1) := by decide +kernel
theorem dL_predicted_77 : decode cL_predicted 77 = .ok (.iload 6, 2) := by decide +kernel
theorem dL_predicted_79 : decode cL_predicted 79 = .ok (.iadd, 1) := by decide +kernel
theorem dL_predicted_80 : decode cL_predicted 80 = .ok (.istore 7, 2) := by decide +kernel
theorem dL_predicted_82 : decode cL_predicted 82 = .ok (.aload_n 0, 1) := by decide +kernel
theorem dL_predicted_83 : decode cL_predicted 83 = .ok (.iload 5, 2) := by decide +kernel
theorem dL_predicted_85 : decode cL_predicted 85 = .ok (.iaload, 1) := by decide +kernel
theorem dL_predicted_86 : decode cL_predicted 86 = .ok (.iload 6, 2) := by decide +kernel
theorem dL_predicted_88 : decode cL_predicted 88 = .ok (.isub, 1) := by decide +kernel
theorem dL_predicted_89 : decode cL_predicted 89 = .ok (.istore 8, 2) := by decide +kernel
theorem dL_predicted_91 : decode cL_predicted 91 = .ok (.aload_n 1, 1) := by decide +kernel
theorem dL_predicted_92 : decode cL_predicted 92 = .ok (.iload 5, 2) := by decide +kernel
theorem dL_predicted_94 : decode cL_predicted 94 = .ok (.iaload, 1) := by decide +kernel
theorem dL_predicted_95 : decode cL_predicted 95 = .ok (.ifCond .ne 11, 3) := by decide +kernel
theorem dL_predicted_98 : decode cL_predicted 98 = .ok (.aload_n 0, 1) := by decide +kernel
theorem dL_predicted_99 : decode cL_predicted 99 = .ok (.iload 5, 2) := by decide +kernel
theorem dL_predicted_101 : decode cL_predicted 101 = .ok (.iaload, 1) := by decide +kernel
theorem dL_predicted_102 : decode cL_predicted 102 = .ok (.iconst 3, 1) := by decide +kernel
theorem dL_predicted_103 : decode cL_predicted 103 = .ok (.if_icmp .lt 10, 3) := by decide +kernel
theorem dL_predicted_106 : decode cL_predicted 106 = .ok (.iload 8, 2) := by decide +kernel
theorem dL_predicted_108 : decode cL_predicted 108 = .ok (.iload 7, 2) := by decide +kernel
theorem dL_predicted_110 : decode cL_predicted 110 = .ok (.if_icmp .le 8, 3) := by decide +kernel
theorem dL_predicted_113 : decode cL_predicted 113 = .ok (.iload 8, 2) := by decide +kernel
theorem dL_predicted_115 : decode cL_predicted 115 = .ok (.goto 5, 3) := by decide +kernel
theorem dL_predicted_118 : decode cL_predicted 118 = .ok (.iload 7, 2) := by decide +kernel
theorem dL_predicted_120 : decode cL_predicted 120 = .ok (.istore 9, 2) := by decide +kernel
theorem dL_predicted_122 : decode cL_predicted 122 = .ok (.iload 9, 2) := by decide +kernel
theorem dL_predicted_124 : decode cL_predicted 124 = .ok (.aload_n 3, 1) := by decide +kernel
theorem dL_predicted_125 : decode cL_predicted 125 = .ok (.iload 4, 2) := by decide +kernel
theorem dL_predicted_127 : decode cL_predicted 127 = .ok (.iaload, 1) := by decide +kernel
theorem dL_predicted_128 : decode cL_predicted 128 = .ok (.if_icmp .ge 9, 3) := by decide +kernel
theorem dL_predicted_131 : decode cL_predicted 131 = .ok (.aload_n 3, 1) := by decide +kernel
theorem dL_predicted_132 : decode cL_predicted 132 = .ok (.iload 4, 2) := by decide +kernel
theorem dL_predicted_134 : decode cL_predicted 134 = .ok (.iload 9, 2) := by decide +kernel
theorem dL_predicted_136 : decode cL_predicted 136 = .ok (.iastore, 1) := by decide +kernel
theorem dL_predicted_137 : decode cL_predicted 137 = .ok (.iinc 5 1, 3) := by decide +kernel
theorem dL_predicted_140 : decode cL_predicted 140 = .ok (.goto (-114), 3) := by decide +kernel
theorem dL_predicted_143 : decode cL_predicted 143 = .ok (.iinc 4 1, 3) := by decide +kernel
theorem dL_predicted_146 : decode cL_predicted 146 = .ok (.goto (-138), 3) := by decide +kernel
theorem dL_predicted_149 : decode cL_predicted 149 = .ok (.aload_n 3, 1) := by decide +kernel
theorem dL_predicted_150 : decode cL_predicted 150 = .ok (.iconst 1, 1) := by decide +kernel
theorem dL_predicted_151 : decode cL_predicted 151 = .ok (.iload_n 2, 1) := by decide +kernel
theorem dL_predicted_152 : decode cL_predicted 152 = .ok (.ishl, 1) := by decide +kernel
theorem dL_predicted_153 : decode cL_predicted 153 = .ok (.iconst 1, 1) := by decide +kernel
theorem dL_predicted_154 : decode cL_predicted 154 = .ok (.isub, 1) := by decide +kernel
theorem dL_predicted_155 : decode cL_predicted 155 = .ok (.iaload, 1) := by decide +kernel
theorem dL_predicted_156 : decode cL_predicted 156 = .ok (.ireturn, 1) := by decide +kernel
set_option maxRecDepth 20000 in
theorem ggL_strings_L_name : GoodIn wsL_strings wsL_name := goodIn_r _ [5, 6, 7, 4, 8, 9, 10, 11, 12, 13, 14, 15, 16, 17, 18, 19, 20] (by decide +kernel) (by decide +kernel)
set_option maxRecDepth 20000 in
theorem gL_strings_L_name : GoodIn wsL_strings (va_wsS RL 51 yL_name wsL_name) := goodIn_app (goodIn_of _ (by decide +kernel)) ggL_strings_L_name
set_option maxRecDepth 20000 in
theorem ggL_strings_X8_count : GoodIn wsL_strings wsX8_count := goodIn_ca (goodIn_r _ [25, 26, 27, 28, 29, 30, 31, 32, 33, 34, 35, 36, 37, 38, 39, 40, 41, 42, 43, 44, 45, 46, 47, 48, 49, 50, 51, 52, 53, 54, 55, 56, 57, 58, 59, 60, 61, 62, 63, 64, 65, 66, 67, 68, 69, 70, 71, 72, 73, 74, 75, 76, 77, 24, 78, 79, 80, 81, 82, 83, 84, 85, 86, 87, 88, 89, 90, 91, 92, 93, 94, 95, 96, 97, 98, 99, 100, 101, 102, 103, 104, 105, 106, 107, 108, 109, 110, 111, 112, 113, 114, 115, 116, 117, 118, 119, 120, 121, 122, 123, 124, 125, 126, 127, 128, 129, 130, 131, 132, 133, 134, 135, 136, 137, 138, 139, 140, 141, 142, 143, 144, 145, 249, 250, 251, 252, 253, 254, 255, 256, 257, 258, 259, 260, 261, 262, 263, 264, 265, 266, 267, 268, 269, 270, 271, 272, 273, 274, 275, 276, 277, 278, 279, 280, 281, 282, 283, 284, 285] (by decide +kernel) (by decide +kernel)) (goodIn_sub (fun _ h => List.mem_cons_of_mem _ (List.mem_append_left _ (List.mem_append_left _ (List.mem_append_right _ h)))) (by decide +kernel))
set_option maxRecDepth 20000 in
theorem gL_strings_X8_count : GoodIn wsL_strings (wsV RL 55 RX8 yX8_count wsX8_count) := goodIn_app (goodIn_of _ (by decide +kernel)) ggL_strings_X8_count
set_option maxRecDepth 20000 in
theorem ggL_strings_X8_stringOf : GoodIn wsL_strings wsX8_stringOf := goodIn_ca (goodIn_r _ [149, 150, 151, 30, 92, 28, 29, 152, 153, 154, 39, 155, 41, 94, 95, 96, 97, 98, 99, 100, 101, 102, 103, 104, 105, 106, 107, 108, 109, 110, 111, 112, 113, 43, 44, 45, 46, 47, 48, 49, 50, 51, 114, 115, 116, 117, 118, 119, 120, 61, 62, 63, 64, 65, 66, 121, 122, 123, 124, 125, 126, 127, 128, 129, 130, 131, 132, 133, 134, 135, 136, 137, 138, 139, 140, 141, 142, 143, 144, 145, 156, 157, 158, 159, 249, 250, 251, 252, 253, 254, 255, 256, 257, 258, 259, 260, 261, 262, 263, 264, 265, 266, 267, 268, 269, 270, 271, 272, 273, 274, 275, 276, 277, 278, 279, 280, 281, 282, 283, 284, 285] (by decide +kernel) (by decide +kernel)) (goodIn_sub (fun _ h => List.mem_cons_of_mem _ (List.mem_append_left _ (List.mem_append_right _ h))) (by decide +kernel))
set_option maxRecDepth 20000 in
theorem gL_strings_X8_stringOf : GoodIn wsL_strings (wsV RL 61 RX8 yX8_stringOf wsX8_stringOf) := goodIn_app (goodIn_of _ (by decide +kernel)) ggL_strings_X8_stringOf
set_option maxRecDepth 20000 in
theorem ggL_strings_X8_openSides : GoodIn wsL_strings wsX8_openSides := goodIn_ca (goodIn_r _ [163, 150, 151, 30, 28, 29, 152, 153, 154, 39, 155, 41, 164, 43, 44, 45, 46, 47, 48, 49, 50, 51, 67, 61, 62, 63, 64, 65, 66, 249, 250, 251, 252, 253, 254, 255, 256, 257, 258, 259, 260, 261, 262, 263, 264, 265, 266, 267, 268, 269] (by decide +kernel) (by decide +kernel)) (goodIn_sub (fun _ h => List.mem_cons_of_mem _ (List.mem_append_left _ (List.mem_append_right _ h))) (by decide +kernel))
set_option maxRecDepth 20000 in
theorem gL_strings_X8_openSides : GoodIn wsL_strings (wsV RL 64 RX8 yX8_openSides wsX8_openSides) := goodIn_app (goodIn_of _ (by decide +kernel)) ggL_strings_X8_openSides
set_option maxRecDepth 20000 in
theorem ggL_strings_L_open : GoodIn wsL_strings wsL_open := goodIn_r _ [8, 9, 10, 4, 11, 12, 13, 14, 15, 16, 17] (by decide +kernel) (by decide +kernel)
set_option maxRecDepth 20000 in
theorem gL_strings_L_open : GoodIn wsL_strings (va_wsS RL 21 yL_open wsL_open) := goodIn_app (goodIn_of _ (by decide +kernel)) ggL_strings_L_open
set_option maxRecDepth 20000 in
theorem ggL_strings_X8_string : GoodIn wsL_strings wsX8_string := goodIn_ca (goodIn_ca (goodIn_r _ [168, 150, 151, 26, 27, 92, 88, 89, 90, 24, 91, 28, 29, 93, 94, 95, 96, 97, 98, 99, 100, 101, 102, 103, 104, 105, 106, 107, 108, 109, 110, 111, 112, 113, 43, 44, 39, 45, 46, 47, 48, 49, 50, 51, 114, 115, 116, 117, 118, 119, 120, 61, 62, 63, 64, 65, 66, 121, 122, 123, 124, 125, 126, 127, 128, 129, 130, 131, 132, 133, 134, 135, 136, 137, 138, 139, 140, 141, 142, 143, 144, 145, 169, 170, 171, 172, 249, 250, 251, 252, 253, 254, 255, 256, 257, 258, 259, 260, 261, 262, 270, 271, 272, 273, 274, 275, 276, 277, 278, 279, 280, 281, 282, 283, 284, 285, 263, 264, 265, 266, 267, 268, 269] (by decide +kernel) (by decide +kernel)) (goodIn_sub (fun _ h => List.mem_cons_of_mem _ (List.mem_append_left _ (List.mem_append_right _ h))) (by decide +kernel))) (goodIn_sub (fun _ h => List.mem_cons_of_mem _ (List.mem_append_left _ (List.mem_append_left _ (List.mem_append_right _ h)))) (by decide +kernel))
set_option maxRecDepth 20000 in
theorem gL_strings_X8_string : GoodIn wsL_strings (wsV RL 67 RX8 yX8_string wsX8_string) := goodIn_app (goodIn_of _ (by decide +kernel)) ggL_strings_X8_string
set_option maxRecDepth 20000 in
theorem ggL_strings_L_property : GoodIn wsL_strings wsL_property := goodIn_r _ [175, 6, 7, 4, 8, 9, 10, 11, 12, 13, 14, 15, 16, 17, 176, 177, 178, 179, 180, 181] (by decide +kernel) (by decide +kernel)
set_option maxRecDepth 20000 in
theorem gL_strings_L_property : GoodIn wsL_strings (va_wsS RL 71 yL_property wsL_property) := goodIn_app (goodIn_of _ (by decide +kernel)) ggL_strings_L_property
set_option maxRecDepth 20000 in
theorem ggL_strings_L_with : GoodIn wsL_strings wsL_with := goodIn_r _ [184, 6, 7, 4, 8, 9, 10, 11, 12, 13, 14, 15, 16, 17] (by decide +kernel) (by decide +kernel)
set_option maxRecDepth 20000 in
theorem gL_strings_L_with : GoodIn wsL_strings (va_wsS RL 41 yL_with wsL_with) := goodIn_app (goodIn_of _ (by decide +kernel)) ggL_strings_L_with
set_option maxRecDepth 20000 in
theorem ggL_strings_X8_control : GoodIn wsL_strings wsX8_control := goodIn_ca (goodIn_r _ [188, 26, 27, 92, 28, 29, 94, 95, 96, 97, 98, 99, 100, 101, 102, 103, 104, 105, 106, 107, 108, 109, 110, 111, 112, 113, 43, 44, 39, 45, 46, 47, 48, 49, 50, 51, 114, 115, 116, 117, 118, 119, 120, 61, 62, 63, 64, 65, 66, 121, 122, 123, 124, 125, 126, 127, 128, 129, 130, 131, 132, 133, 134, 135, 136, 137, 138, 139, 140, 141, 142, 143, 144, 145, 189, 190, 191, 192, 193, 194, 195, 196, 197, 198, 199, 200, 201, 202, 203, 204, 205, 206, 207, 208, 209, 210, 211, 212, 213, 214, 249, 250, 251, 252, 253, 254, 255, 256, 257, 258, 259, 260, 261, 262, 270, 271, 272, 273, 274, 275, 276, 277, 278, 279, 280, 281, 282, 283, 284, 285, 263, 264, 265, 266, 267, 268, 269] (by decide +kernel) (by decide +kernel)) (goodIn_sub (fun _ h => List.mem_cons_of_mem _ (List.mem_append_left _ (List.mem_append_left _ (List.mem_append_right _ h)))) (by decide +kernel))
set_option maxRecDepth 20000 in
theorem gL_strings_X8_control : GoodIn wsL_strings (wsV RL 75 RX8 yX8_control wsX8_control) := goodIn_app (goodIn_of _ (by decide +kernel)) ggL_strings_X8_control
set_option maxRecDepth 20000 in
theorem ggL_strings_X8_prediction : GoodIn wsL_strings wsX8_prediction := goodIn_ca (goodIn_r _ [218, 219, 220, 92, 88, 89, 90, 24, 91, 28, 29, 93, 94, 95, 96, 97, 98, 99, 100, 101, 102, 103, 104, 105, 106, 107, 108, 109, 110, 111, 112, 113, 43, 44, 39, 45, 46, 47, 48, 49, 50, 51, 114, 115, 116, 117, 118, 119, 120, 61, 62, 63, 64, 65, 66, 121, 122, 123, 124, 125, 126, 127, 128, 129, 130, 131, 132, 133, 134, 135, 136, 137, 138, 139, 140, 141, 142, 143, 144, 145, 221, 222, 223, 224, 225, 226, 227, 228, 229, 230, 231, 232, 233, 234, 235, 236, 237, 238, 239, 240, 241, 242, 243, 244, 245, 249, 250, 251, 252, 253, 254, 255, 256, 257, 258, 259, 260, 261, 262, 270, 271, 272, 273, 274, 275, 276, 277, 278, 279, 280, 281, 282, 283, 284, 285, 263, 264, 265, 266, 267, 268, 269] (by decide +kernel) (by decide +kernel)) (goodIn_sub (fun _ h => List.mem_cons_of_mem _ (List.mem_append_right _ h)) (by decide +kernel))
set_option maxRecDepth 20000 in
theorem gL_strings_X8_prediction : GoodIn wsL_strings (wsV RL 78 RX8 yX8_prediction wsX8_prediction) := goodIn_app (goodIn_of _ (by decide +kernel)) ggL_strings_X8_prediction
set_option maxRecDepth 20000 in
theorem ggL_strings_L_predicted : GoodIn wsL_strings wsL_predicted := goodIn_r _ [248, 1] (by decide +kernel) (by decide +kernel)
set_option maxRecDepth 20000 in
theorem gL_strings_L_predicted : GoodIn wsL_strings (va_wsS RL 82 yL_predicted wsL_predicted) := goodIn_app (goodIn_of _ (by decide +kernel)) ggL_strings_L_predicted
theorem dL_strings_0 : decode cL_strings 0 = .ok (.bipush 16, 2) := by decide +kernel
theorem dL_strings_2 : decode cL_strings 2 = .ok (.newarray .int, 2) := by decide +kernel
theorem dL_strings_4 : decode cL_strings 4 = .ok (.astore 4, 2) := by decide +kernel
theorem dL_strings_6 : decode cL_strings 6 = .ok (.bipush 16, 2) := by decide +kernel
theorem dL_strings_8 : decode cL_strings 8 = .ok (.newarray .int, 2) := by decide +kernel
theorem dL_strings_10 : decode cL_strings 10 = .ok (.astore 5, 2) := by decide +kernel
theorem dL_strings_12 : decode cL_strings 12 = .ok (.bipush 16, 2) := by decide +kernel
theorem dL_strings_14 : decode cL_strings 14 = .ok (.newarray .int, 2) := by decide +kernel
theorem dL_strings_16 : decode cL_strings 16 = .ok (.astore 6, 2) := by decide +kernel
theorem dL_strings_18 : decode cL_strings 18 = .ok (.aload_n 1, 1) := by decide +kernel
theorem dL_strings_19 : decode cL_strings 19 = .ok (.lload_n 2, 1) := by decide +kernel
theorem dL_strings_20 : decode cL_strings 20 = .ok (.aload 4, 2) := by decide +kernel
theorem dL_strings_22 : decode cL_strings 22 = .ok (.invokestatic 51, 3) := by decide +kernel
theorem dL_strings_25 : decode cL_strings 25 = .ok (.istore 7, 2) := by decide +kernel
theorem dL_strings_27 : decode cL_strings 27 = .ok (.aload_n 0, 1) := by decide +kernel
theorem dL_strings_28 : decode cL_strings 28 = .ok (.bipush 10, 2) := by decide +kernel
theorem dL_strings_30 : decode cL_strings 30 = .ok (.invokevirtual 55, 3) := by decide +kernel
theorem dL_strings_33 : decode cL_strings 33 = .ok (.iload 7, 2) := by decide +kernel
theorem dL_strings_35 : decode cL_strings 35 = .ok (.if_icmp .eq 5, 3) := by decide +kernel
theorem dL_strings_38 : decode cL_strings 38 = .ok (.iconst 0, 1) := by decide +kernel
theorem dL_strings_39 : decode cL_strings 39 = .ok (.ireturn, 1) := by decide +kernel
theorem dL_strings_40 : decode cL_strings 40 = .ok (.iconst 0, 1) := by decide +kernel
theorem dL_strings_41 : decode cL_strings 41 = .ok (.istore 8, 2) := by decide +kernel
theorem dL_strings_43 : decode cL_strings 43 = .ok (.iconst 0, 1) := by decide +kernel
theorem dL_strings_44 : decode cL_strings 44 = .ok (.istore 9, 2) := by decide +kernel
theorem dL_strings_46 : decode cL_strings 46 = .ok (.iconst 0, 1) := by decide +kernel
theorem dL_strings_47 : decode cL_strings 47 = .ok (.istore 10, 2) := by decide +kernel
theorem dL_strings_49 : decode cL_strings 49 = .ok (.iconst 0, 1) := by decide +kernel
theorem dL_strings_50 : decode cL_strings 50 = .ok (.istore 11, 2) := by decide +kernel
theorem dL_strings_52 : decode cL_strings 52 = .ok (.iconst 1, 1) := by decide +kernel
theorem dL_strings_53 : decode cL_strings 53 = .ok (.istore 12, 2) := by decide +kernel
theorem dL_strings_55 : decode cL_strings 55 = .ok (.iconst 0, 1) := by decide +kernel
theorem dL_strings_56 : decode cL_strings 56 = .ok (.istore 13, 2) := by decide +kernel
theorem dL_strings_58 : decode cL_strings 58 = .ok (.iload 13, 2) := by decide +kernel
theorem dL_strings_60 : decode cL_strings 60 = .ok (.aload_n 1, 1) := by decide +kernel
theorem dL_strings_61 : decode cL_strings 61 = .ok (.iconst 0, 1) := by decide +kernel
theorem dL_strings_62 : decode cL_strings 62 = .ok (.iaload, 1) := by decide +kernel
theorem dL_strings_63 : decode cL_strings 63 = .ok (.aload_n 1, 1) := by decide +kernel
theorem dL_strings_64 : decode cL_strings 64 = .ok (.iconst 1, 1) := by decide +kernel
theorem dL_strings_65 : decode cL_strings 65 = .ok (.iaload, 1) := by decide +kernel
theorem dL_strings_66 : decode cL_strings 66 = .ok (.imul, 1) := by decide +kernel
theorem dL_strings_67 : decode cL_strings 67 = .ok (.if_icmp .ge 263, 3) := by decide +kernel
theorem dL_strings_70 : decode cL_strings 70 = .ok (.iconst (-1), 1) := by decide +kernel
theorem dL_strings_71 : decode cL_strings 71 = .ok (.istore 14, 2) := by decide +kernel
theorem dL_strings_73 : decode cL_strings 73 = .ok (.aload 4, 2) := by decide +kernel
theorem dL_strings_75 : decode cL_strings 75 = .ok (.iload 13, 2) := by decide +kernel
theorem dL_strings_77 : decode cL_strings 77 = .ok (.iaload, 1) := by decide +kernel
theorem dL_strings_78 : decode cL_strings 78 = .ok (.ifCond .lt 38, 3) := by decide +kernel
theorem dL_strings_81 : decode cL_strings 81 = .ok (.iconst 0, 1) := by decide +kernel
theorem dL_strings_82 : decode cL_strings 82 = .ok (.istore 14, 2) := by decide +kernel
theorem dL_strings_84 : decode cL_strings 84 = .ok (.iconst 0, 1) := by decide +kernel
theorem dL_strings_85 : decode cL_strings 85 = .ok (.istore 15, 2) := by decide +kernel
theorem dL_strings_87 : decode cL_strings 87 = .ok (.iload 15, 2) := by decide +kernel
theorem dL_strings_89 : decode cL_strings 89 = .ok (.aload 4, 2) := by decide +kernel
theorem dL_strings_91 : decode cL_strings 91 = .ok (.iload 13, 2) := by decide +kernel
theorem dL_strings_93 : decode cL_strings 93 = .ok (.iaload, 1) := by decide +kernel
theorem dL_strings_94 : decode cL_strings 94 = .ok (.if_icmp .ge 22, 3) := by decide +kernel
theorem dL_strings_97 : decode cL_strings 97 = .ok (.aload 4, 2) := by decide +kernel
theorem dL_strings_99 : decode cL_strings 99 = .ok (.iload 15, 2) := by decide +kernel
theorem dL_strings_101 : decode cL_strings 101 = .ok (.iaload, 1) := by decide +kernel
theorem dL_strings_102 : decode cL_strings 102 = .ok (.iload 15, 2) := by decide +kernel
theorem dL_strings_104 : decode cL_strings 104 = .ok (.if_icmp .ne 6, 3) := by decide +kernel
theorem dL_strings_107 : decode cL_strings 107 = .ok (.iinc 14 1, 3) := by decide +kernel
theorem dL_strings_110 : decode cL_strings 110 = .ok (.iinc 15 1, 3) := by decide +kernel
theorem dL_strings_113 : decode cL_strings 113 = .ok (.goto (-26), 3) := by decide +kernel
theorem dL_strings_116 : decode cL_strings 116 = .ok (.aload_n 0, 1) := by decide +kernel
theorem dL_strings_117 : decode cL_strings 117 = .ok (.iload 13, 2) := by decide +kernel
theorem dL_strings_119 : decode cL_strings 119 = .ok (.invokevirtual 61, 3) := by decide +kernel
theorem dL_strings_122 : decode cL_strings 122 = .ok (.iload 14, 2) := by decide +kernel
theorem dL_strings_124 : decode cL_strings 124 = .ok (.if_icmp .ne 19, 3) := by decide +kernel
theorem dL_strings_127 : decode cL_strings 127 = .ok (.aload_n 0, 1) := by decide +kernel
theorem dL_strings_128 : decode cL_strings 128 = .ok (.iload 13, 2) := by decide +kernel
theorem dL_strings_130 : decode cL_strings 130 = .ok (.invokevirtual 64, 3) := by decide +kernel
theorem dL_strings_133 : decode cL_strings 133 = .ok (.aload_n 1, 1) := by decide +kernel
theorem dL_strings_134 : decode cL_strings 134 = .ok (.iload 13, 2) := by decide +kernel
theorem dL_strings_136 : decode cL_strings 136 = .ok (.lload_n 2, 1) := by decide +kernel
theorem dL_strings_137 : decode cL_strings 137 = .ok (.invokestatic 21, 3) := by decide +kernel
theorem dL_strings_140 : decode cL_strings 140 = .ok (.if_icmp .eq 5, 3) := by decide +kernel
theorem dL_strings_143 : decode cL_strings 143 = .ok (.iconst 0, 1) := by decide +kernel
theorem dL_strings_144 : decode cL_strings 144 = .ok (.ireturn, 1) := by decide +kernel
theorem dL_strings_145 : decode cL_strings 145 = .ok (.aload 4, 2) := by decide +kernel
theorem dL_strings_147 : decode cL_strings 147 = .ok (.iload 13, 2) := by decide +kernel
theorem dL_strings_149 : decode cL_strings 149 = .ok (.iaload, 1) := by decide +kernel
theorem dL_strings_150 : decode cL_strings 150 = .ok (.iload 13, 2) := by decide +kernel
theorem dL_strings_152 : decode cL_strings 152 = .ok (.if_icmp .eq 6, 3) := by decide +kernel
theorem dL_strings_155 : decode cL_strings 155 = .ok (.goto 169, 3) := by decide +kernel
theorem dL_strings_158 : decode cL_strings 158 = .ok (.iconst 0, 1) := by decide +kernel
theorem dL_strings_159 : decode cL_strings 159 = .ok (.istore 15, 2) := by decide +kernel
theorem dL_strings_161 : decode cL_strings 161 = .ok (.iload 15, 2) := by decide +kernel
theorem dL_strings_163 : decode cL_strings 163 = .ok (.iconst 5, 1) := by decide +kernel
theorem dL_strings_164 : decode cL_strings 164 = .ok (.if_icmp .ge 33, 3) := by decide +kernel
theorem dL_strings_167 : decode cL_strings 167 = .ok (.aload_n 0, 1) := by decide +kernel
theorem dL_strings_168 : decode cL_strings 168 = .ok (.iload 8, 2) := by decide +kernel
theorem dL_strings_170 : decode cL_strings 170 = .ok (.iload 15, 2) := by decide +kernel
theorem dL_strings_172 : decode cL_strings 172 = .ok (.invokevirtual 67, 3) := by decide +kernel
theorem dL_strings_175 : decode cL_strings 175 = .ok (.aload_n 1, 1) := by decide +kernel
theorem dL_strings_176 : decode cL_strings 176 = .ok (.lload_n 2, 1) := by decide +kernel
theorem dL_strings_177 : decode cL_strings 177 = .ok (.aload 4, 2) := by decide +kernel
theorem dL_strings_179 : decode cL_strings 179 = .ok (.iload 13, 2) := by decide +kernel
theorem dL_strings_181 : decode cL_strings 181 = .ok (.iload 15, 2) := by decide +kernel
theorem dL_strings_183 : decode cL_strings 183 = .ok (.invokestatic 71, 3) := by decide +kernel
theorem dL_strings_186 : decode cL_strings 186 = .ok (.if_icmp .eq 5, 3) := by decide +kernel
theorem dL_strings_189 : decode cL_strings 189 = .ok (.iconst 0, 1) := by decide +kernel
theorem dL_strings_190 : decode cL_strings 190 = .ok (.ireturn, 1) := by decide +kernel
theorem dL_strings_191 : decode cL_strings 191 = .ok (.iinc 15 1, 3) := by decide +kernel
theorem dL_strings_194 : decode cL_strings 194 = .ok (.goto (-33), 3) := by decide +kernel
theorem dL_strings_197 : decode cL_strings 197 = .ok (.aload 5, 2) := by decide +kernel
theorem dL_strings_199 : decode cL_strings 199 = .ok (.iload 8, 2) := by decide +kernel
theorem dL_strings_201 : decode cL_strings 201 = .ok (.aload_n 1, 1) := by decide +kernel
theorem dL_strings_202 : decode cL_strings 202 = .ok (.lload_n 2, 1) := by decide +kernel
theorem dL_strings_203 : decode cL_strings 203 = .ok (.aload 4, 2) := by decide +kernel
theorem dL_strings_205 : decode cL_strings 205 = .ok (.iload 13, 2) := by decide +kernel
theorem dL_strings_207 : decode cL_strings 207 = .ok (.iconst 0, 1) := by decide +kernel
theorem dL_strings_208 : decode cL_strings 208 = .ok (.invokestatic 71, 3) := by decide +kernel
theorem dL_strings_211 : decode cL_strings 211 = .ok (.iastore, 1) := by decide +kernel
theorem dL_strings_212 : decode cL_strings 212 = .ok (.aload 6, 2) := by decide +kernel
theorem dL_strings_214 : decode cL_strings 214 = .ok (.iload 8, 2) := by decide +kernel
theorem dL_strings_216 : decode cL_strings 216 = .ok (.aload_n 1, 1) := by decide +kernel
theorem dL_strings_217 : decode cL_strings 217 = .ok (.lload_n 2, 1) := by decide +kernel
theorem dL_strings_218 : decode cL_strings 218 = .ok (.aload 4, 2) := by decide +kernel
theorem dL_strings_220 : decode cL_strings 220 = .ok (.iload 13, 2) := by decide +kernel
theorem dL_strings_222 : decode cL_strings 222 = .ok (.iconst 1, 1) := by decide +kernel
theorem dL_strings_223 : decode cL_strings 223 = .ok (.invokestatic 71, 3) := by decide +kernel
theorem dL_strings_226 : decode cL_strings 226 = .ok (.iastore, 1) := by decide +kernel
theorem dL_strings_227 : decode cL_strings 227 = .ok (.aload_n 1, 1) := by decide +kernel
theorem dL_strings_228 : decode cL_strings 228 = .ok (.lload_n 2, 1) := by decide +kernel
theorem dL_strings_229 : decode cL_strings 229 = .ok (.aload 4, 2) := by decide +kernel
theorem dL_strings_231 : decode cL_strings 231 = .ok (.iload 13, 2) := by decide +kernel
theorem dL_strings_233 : decode cL_strings 233 = .ok (.iconst 2, 1) := by decide +kernel
theorem dL_strings_234 : decode cL_strings 234 = .ok (.invokestatic 71, 3) := by decide +kernel
theorem dL_strings_237 : decode cL_strings 237 = .ok (.iconst 1, 1) := by decide +kernel
theorem dL_strings_238 : decode cL_strings 238 = .ok (.if_icmp .ne 6, 3) := by decide +kernel
theorem dL_strings_241 : decode cL_strings 241 = .ok (.iconst 0, 1) := by decide +kernel
theorem dL_strings_242 : decode cL_strings 242 = .ok (.istore 12, 2) := by decide +kernel
theorem dL_strings_244 : decode cL_strings 244 = .ok (.aload 6, 2) := by decide +kernel
theorem dL_strings_246 : decode cL_strings 246 = .ok (.iload 8, 2) := by decide +kernel
theorem dL_strings_248 : decode cL_strings 248 = .ok (.iaload, 1) := by decide +kernel
theorem dL_strings_249 : decode cL_strings 249 = .ok (.iconst 1, 1) := by decide +kernel
theorem dL_strings_250 : decode cL_strings 250 = .ok (.if_icmp .ne 6, 3) := by decide +kernel
theorem dL_strings_253 : decode cL_strings 253 = .ok (.iinc 10 1, 3) := by decide +kernel
theorem dL_strings_256 : decode cL_strings 256 = .ok (.aload 6, 2) := by decide +kernel
theorem dL_strings_258 : decode cL_strings 258 = .ok (.iload 8, 2) := by decide +kernel
theorem dL_strings_260 : decode cL_strings 260 = .ok (.iaload, 1) := by decide +kernel
theorem dL_strings_261 : decode cL_strings 261 = .ok (.ifCond .ne 15, 3) := by decide +kernel
theorem dL_strings_264 : decode cL_strings 264 = .ok (.aload 5, 2) := by decide +kernel
theorem dL_strings_266 : decode cL_strings 266 = .ok (.iload 8, 2) := by decide +kernel
theorem dL_strings_268 : decode cL_strings 268 = .ok (.iaload, 1) := by decide +kernel
theorem dL_strings_269 : decode cL_strings 269 = .ok (.iconst 2, 1) := by decide +kernel
theorem dL_strings_270 : decode cL_strings 270 = .ok (.if_icmp .le 6, 3) := by decide +kernel
theorem dL_strings_273 : decode cL_strings 273 = .ok (.iinc 9 1, 3) := by decide +kernel
theorem dL_strings_276 : decode cL_strings 276 = .ok (.iload 11, 2) := by decide +kernel
theorem dL_strings_278 : decode cL_strings 278 = .ok (.aload 6, 2) := by decide +kernel
theorem dL_strings_280 : decode cL_strings 280 = .ok (.iload 8, 2) := by decide +kernel
theorem dL_strings_282 : decode cL_strings 282 = .ok (.iaload, 1) := by decide +kernel
theorem dL_strings_283 : decode cL_strings 283 = .ok (.iconst 1, 1) := by decide +kernel
theorem dL_strings_284 : decode cL_strings 284 = .ok (.if_icmp .ne 14, 3) := by decide +kernel
theorem dL_strings_287 : decode cL_strings 287 = .ok (.aload 5, 2) := by decide +kernel
theorem dL_strings_289 : decode cL_strings 289 = .ok (.iload 8, 2) := by decide +kernel
theorem dL_strings_291 : decode cL_strings 291 = .ok (.iaload, 1) := by decide +kernel
theorem dL_strings_292 : decode cL_strings 292 = .ok (.bipush 8, 2) := by decide +kernel
theorem dL_strings_294 : decode cL_strings 294 = .ok (.isub, 1) := by decide +kernel
theorem dL_strings_295 : decode cL_strings 295 = .ok (.goto 23, 3) := by decide +kernel
theorem dL_strings_298 : decode cL_strings 298 = .ok (.aload 5, 2) := by decide +kernel
theorem dL_strings_300 : decode cL_strings 300 = .ok (.iload 8, 2) := by decide +kernel
theorem dL_strings_302 : decode cL_strings 302 = .ok (.iaload, 1) := by decide +kernel
theorem dL_strings_303 : decode cL_strings 303 = .ok (.iconst 2, 1) := by decide +kernel
theorem dL_strings_304 : decode cL_strings 304 = .ok (.if_icmp .le 13, 3) := by decide +kernel
theorem dL_strings_307 : decode cL_strings 307 = .ok (.aload 5, 2) := by decide +kernel
theorem dL_strings_309 : decode cL_strings 309 = .ok (.iload 8, 2) := by decide +kernel
theorem dL_strings_311 : decode cL_strings 311 = .ok (.iaload, 1) := by decide +kernel
theorem dL_strings_312 : decode cL_strings 312 = .ok (.iconst 4, 1) := by decide +kernel
theorem dL_strings_313 : decode cL_strings 313 = .ok (.isub, 1) := by decide +kernel
theorem dL_strings_314 : decode cL_strings 314 = .ok (.goto 4, 3) := by decide +kernel
theorem dL_strings_317 : decode cL_strings 317 = .ok (.iconst 0, 1) := by decide +kernel
theorem dL_strings_318 : decode cL_strings 318 = .ok (.iadd, 1) := by decide +kernel
theorem dL_strings_319 : decode cL_strings 319 = .ok (.istore 11, 2) := by decide +kernel
theorem dL_strings_321 : decode cL_strings 321 = .ok (.iinc 8 1, 3) := by decide +kernel
theorem dL_strings_324 : decode cL_strings 324 = .ok (.iinc 13 1, 3) := by decide +kernel
theorem dL_strings_327 : decode cL_strings 327 = .ok (.goto (-269), 3) := by decide +kernel
theorem dL_strings_330 : decode cL_strings 330 = .ok (.aload_n 1, 1) := by decide +kernel
theorem dL_strings_331 : decode cL_strings 331 = .ok (.iconst 3, 1) := by decide +kernel
theorem dL_strings_332 : decode cL_strings 332 = .ok (.lload_n 2, 1) := by decide +kernel
theorem dL_strings_333 : decode cL_strings 333 = .ok (.invokestatic 41, 3) := by decide +kernel
theorem dL_strings_336 : decode cL_strings 336 = .ok (.aload_n 1, 1) := by decide +kernel
theorem dL_strings_337 : decode cL_strings 337 = .ok (.iconst 4, 1) := by decide +kernel
theorem dL_strings_338 : decode cL_strings 338 = .ok (.lload_n 2, 1) := by decide +kernel
theorem dL_strings_339 : decode cL_strings 339 = .ok (.invokestatic 41, 3) := by decide +kernel
theorem dL_strings_342 : decode cL_strings 342 = .ok (.iadd, 1) := by decide +kernel
theorem dL_strings_343 : decode cL_strings 343 = .ok (.istore 13, 2) := by decide +kernel
theorem dL_strings_345 : decode cL_strings 345 = .ok (.aload_n 0, 1) := by decide +kernel
theorem dL_strings_346 : decode cL_strings 346 = .ok (.iconst 0, 1) := by decide +kernel
theorem dL_strings_347 : decode cL_strings 347 = .ok (.invokevirtual 75, 3) := by decide +kernel
theorem dL_strings_350 : decode cL_strings 350 = .ok (.iload 9, 2) := by decide +kernel
theorem dL_strings_352 : decode cL_strings 352 = .ok (.if_icmp .ne 80, 3) := by decide +kernel
theorem dL_strings_355 : decode cL_strings 355 = .ok (.aload_n 0, 1) := by decide +kernel
theorem dL_strings_356 : decode cL_strings 356 = .ok (.iconst 1, 1) := by decide +kernel
theorem dL_strings_357 : decode cL_strings 357 = .ok (.invokevirtual 75, 3) := by decide +kernel
theorem dL_strings_360 : decode cL_strings 360 = .ok (.iload 10, 2) := by decide +kernel
theorem dL_strings_362 : decode cL_strings 362 = .ok (.if_icmp .ne 70, 3) := by decide +kernel
theorem dL_strings_365 : decode cL_strings 365 = .ok (.aload_n 0, 1) := by decide +kernel
theorem dL_strings_366 : decode cL_strings 366 = .ok (.iconst 2, 1) := by decide +kernel
theorem dL_strings_367 : decode cL_strings 367 = .ok (.invokevirtual 75, 3) := by decide +kernel
theorem dL_strings_370 : decode cL_strings 370 = .ok (.iload 13, 2) := by decide +kernel
theorem dL_strings_372 : decode cL_strings 372 = .ok (.if_icmp .ne 60, 3) := by decide +kernel
theorem dL_strings_375 : decode cL_strings 375 = .ok (.aload_n 0, 1) := by decide +kernel
theorem dL_strings_376 : decode cL_strings 376 = .ok (.iconst 3, 1) := by decide +kernel
theorem dL_strings_377 : decode cL_strings 377 = .ok (.invokevirtual 75, 3) := by decide +kernel
theorem dL_strings_380 : decode cL_strings 380 = .ok (.iload 13, 2) := by decide +kernel
theorem dL_strings_382 : decode cL_strings 382 = .ok (.ifCond .ne 12, 3) := by decide +kernel
theorem dL_strings_385 : decode cL_strings 385 = .ok (.iload 12, 2) := by decide +kernel
theorem dL_strings_387 : decode cL_strings 387 = .ok (.ifCond .eq 7, 3) := by decide +kernel
theorem dL_strings_390 : decode cL_strings 390 = .ok (.iconst 1, 1) := by decide +kernel
theorem dL_strings_391 : decode cL_strings 391 = .ok (.goto 4, 3) := by decide +kernel
theorem dL_strings_394 : decode cL_strings 394 = .ok (.iconst 0, 1) := by decide +kernel
theorem dL_strings_395 : decode cL_strings 395 = .ok (.if_icmp .ne 37, 3) := by decide +kernel
theorem dL_strings_398 : decode cL_strings 398 = .ok (.aload_n 0, 1) := by decide +kernel
theorem dL_strings_399 : decode cL_strings 399 = .ok (.iconst 4, 1) := by decide +kernel
theorem dL_strings_400 : decode cL_strings 400 = .ok (.invokevirtual 75, 3) := by decide +kernel
theorem dL_strings_403 : decode cL_strings 403 = .ok (.iload 11, 2) := by decide +kernel
theorem dL_strings_405 : decode cL_strings 405 = .ok (.if_icmp .ne 27, 3) := by decide +kernel
theorem dL_strings_408 : decode cL_strings 408 = .ok (.aload_n 0, 1) := by decide +kernel
theorem dL_strings_409 : decode cL_strings 409 = .ok (.iconst 5, 1) := by decide +kernel
theorem dL_strings_410 : decode cL_strings 410 = .ok (.invokevirtual 75, 3) := by decide +kernel
theorem dL_strings_413 : decode cL_strings 413 = .ok (.aload_n 1, 1) := by decide +kernel
theorem dL_strings_414 : decode cL_strings 414 = .ok (.iconst 0, 1) := by decide +kernel
theorem dL_strings_415 : decode cL_strings 415 = .ok (.iaload, 1) := by decide +kernel
theorem dL_strings_416 : decode cL_strings 416 = .ok (.iconst 1, 1) := by decide +kernel
theorem dL_strings_417 : decode cL_strings 417 = .ok (.iadd, 1) := by decide +kernel
theorem dL_strings_418 : decode cL_strings 418 = .ok (.aload_n 1, 1) := by decide +kernel
theorem dL_strings_419 : decode cL_strings 419 = .ok (.iconst 1, 1) := by decide +kernel
theorem dL_strings_420 : decode cL_strings 420 = .ok (.iaload, 1) := by decide +kernel
theorem dL_strings_421 : decode cL_strings 421 = .ok (.iconst 1, 1) := by decide +kernel
theorem dL_strings_422 : decode cL_strings 422 = .ok (.iadd, 1) := by decide +kernel
theorem dL_strings_423 : decode cL_strings 423 = .ok (.imul, 1) := by decide +kernel
theorem dL_strings_424 : decode cL_strings 424 = .ok (.iload 9, 2) := by decide +kernel
theorem dL_strings_426 : decode cL_strings 426 = .ok (.iadd, 1) := by decide +kernel
theorem dL_strings_427 : decode cL_strings 427 = .ok (.iconst 2, 1) := by decide +kernel
theorem dL_strings_428 : decode cL_strings 428 = .ok (.irem, 1) := by decide +kernel
theorem dL_strings_429 : decode cL_strings 429 = .ok (.if_icmp .eq 5, 3) := by decide +kernel
theorem dL_strings_432 : decode cL_strings 432 = .ok (.iconst 0, 1) := by decide +kernel
theorem dL_strings_433 : decode cL_strings 433 = .ok (.ireturn, 1) := by decide +kernel
theorem dL_strings_434 : decode cL_strings 434 = .ok (.iload 7, 2) := by decide +kernel
theorem dL_strings_436 : decode cL_strings 436 = .ok (.bipush 6, 2) := by decide +kernel
theorem dL_strings_438 : decode cL_strings 438 = .ok (.if_icmp .gt 19, 3) := by decide +kernel
theorem dL_strings_441 : decode cL_strings 441 = .ok (.aload_n 0, 1) := by decide +kernel
theorem dL_strings_442 : decode cL_strings 442 = .ok (.invokevirtual 78, 3) := by decide +kernel
theorem dL_strings_445 : decode cL_strings 445 = .ok (.aload 5, 2) := by decide +kernel
theorem dL_strings_447 : decode cL_strings 447 = .ok (.aload 6, 2) := by decide +kernel
theorem dL_strings_449 : decode cL_strings 449 = .ok (.iload 7, 2) := by decide +kernel
theorem dL_strings_451 : decode cL_strings 451 = .ok (.invokestatic 82, 3) := by decide +kernel
theorem dL_strings_454 : decode cL_strings 454 = .ok (.if_icmp .ne 7, 3) := by decide +kernel
theorem dL_strings_457 : decode cL_strings 457 = .ok (.iconst 1, 1) := by decide +kernel
theorem dL_strings_458 : decode cL_strings 458 = .ok (.goto 4, 3) := by decide +kernel
theorem dL_strings_461 : decode cL_strings 461 = .ok (.iconst 0, 1) := by decide +kernel
theorem dL_strings_462 : decode cL_strings 462 = .ok (.ireturn, 1) := by decide +kernel
set_option maxRecDepth 20000 in
theorem ggL_turned_L_flat : GoodIn wsL_turned wsL_flat := goodIn_r _ [4] (by decide +kernel) (by decide +kernel)
set_option maxRecDepth 20000 in
theorem gL_turned_L_flat : GoodIn wsL_turned (va_wsS RL 8 yL_flat wsL_flat) := goodIn_app (goodIn_of _ (by decide +kernel)) ggL_turned_L_flat
set_option maxRecDepth 20000 in
theorem ggL_turned_L_upright : GoodIn wsL_turned wsL_upright := goodIn_r _ [7] (by decide +kernel) (by decide +kernel)
set_option maxRecDepth 20000 in
theorem gL_turned_L_upright : GoodIn wsL_turned (va_wsS RL 18 yL_upright wsL_upright) := goodIn_app (goodIn_of _ (by decide +kernel)) ggL_turned_L_upright
theorem dL_turned_0 : decode cL_turned 0 = .ok (.iload_n 1, 1) := by decide +kernel
theorem dL_turned_1 : decode cL_turned 1 = .ok (.aload_n 0, 1) := by decide +kernel
theorem dL_turned_2 : decode cL_turned 2 = .ok (.iconst 0, 1) := by decide +kernel
theorem dL_turned_3 : decode cL_turned 3 = .ok (.iaload, 1) := by decide +kernel
theorem dL_turned_4 : decode cL_turned 4 = .ok (.aload_n 0, 1) := by decide +kernel
theorem dL_turned_5 : decode cL_turned 5 = .ok (.iconst 1, 1) := by decide +kernel
theorem dL_turned_6 : decode cL_turned 6 = .ok (.iaload, 1) := by decide +kernel
theorem dL_turned_7 : decode cL_turned 7 = .ok (.iconst 1, 1) := by decide +kernel
theorem dL_turned_8 : decode cL_turned 8 = .ok (.iadd, 1) := by decide +kernel
theorem dL_turned_9 : decode cL_turned 9 = .ok (.imul, 1) := by decide +kernel
theorem dL_turned_10 : decode cL_turned 10 = .ok (.if_icmp .lt 7, 3) := by decide +kernel
theorem dL_turned_13 : decode cL_turned 13 = .ok (.iconst 1, 1) := by decide +kernel
theorem dL_turned_14 : decode cL_turned 14 = .ok (.goto 4, 3) := by decide +kernel
theorem dL_turned_17 : decode cL_turned 17 = .ok (.iconst 0, 1) := by decide +kernel
theorem dL_turned_18 : decode cL_turned 18 = .ok (.istore_n 3, 1) := by decide +kernel
theorem dL_turned_19 : decode cL_turned 19 = .ok (.iload_n 3, 1) := by decide +kernel
theorem dL_turned_20 : decode cL_turned 20 = .ok (.ifCond .eq 17, 3) := by decide +kernel
theorem dL_turned_23 : decode cL_turned 23 = .ok (.iload_n 1, 1) := by decide +kernel
theorem dL_turned_24 : decode cL_turned 24 = .ok (.aload_n 0, 1) := by decide +kernel
theorem dL_turned_25 : decode cL_turned 25 = .ok (.iconst 0, 1) := by decide +kernel
theorem dL_turned_26 : decode cL_turned 26 = .ok (.iaload, 1) := by decide +kernel
theorem dL_turned_27 : decode cL_turned 27 = .ok (.aload_n 0, 1) := by decide +kernel
theorem dL_turned_28 : decode cL_turned 28 = .ok (.iconst 1, 1) := by decide +kernel
theorem dL_turned_29 : decode cL_turned 29 = .ok (.iaload, 1) := by decide +kernel
theorem dL_turned_30 : decode cL_turned 30 = .ok (.iconst 1, 1) := by decide +kernel
theorem dL_turned_31 : decode cL_turned 31 = .ok (.iadd, 1) := by decide +kernel
theorem dL_turned_32 : decode cL_turned 32 = .ok (.imul, 1) := by decide +kernel
theorem dL_turned_33 : decode cL_turned 33 = .ok (.isub, 1) := by decide +kernel
theorem dL_turned_34 : decode cL_turned 34 = .ok (.goto 4, 3) := by decide +kernel
theorem dL_turned_37 : decode cL_turned 37 = .ok (.iload_n 1, 1) := by decide +kernel
theorem dL_turned_38 : decode cL_turned 38 = .ok (.istore 4, 2) := by decide +kernel
theorem dL_turned_40 : decode cL_turned 40 = .ok (.iload 4, 2) := by decide +kernel
theorem dL_turned_42 : decode cL_turned 42 = .ok (.iload_n 3, 1) := by decide +kernel
theorem dL_turned_43 : decode cL_turned 43 = .ok (.ifCond .eq 11, 3) := by decide +kernel
theorem dL_turned_46 : decode cL_turned 46 = .ok (.aload_n 0, 1) := by decide +kernel
theorem dL_turned_47 : decode cL_turned 47 = .ok (.iconst 0, 1) := by decide +kernel
theorem dL_turned_48 : decode cL_turned 48 = .ok (.iaload, 1) := by decide +kernel
theorem dL_turned_49 : decode cL_turned 49 = .ok (.iconst 1, 1) := by decide +kernel
theorem dL_turned_50 : decode cL_turned 50 = .ok (.iadd, 1) := by decide +kernel
theorem dL_turned_51 : decode cL_turned 51 = .ok (.goto 6, 3) := by decide +kernel
theorem dL_turned_54 : decode cL_turned 54 = .ok (.aload_n 0, 1) := by decide +kernel
theorem dL_turned_55 : decode cL_turned 55 = .ok (.iconst 0, 1) := by decide +kernel
theorem dL_turned_56 : decode cL_turned 56 = .ok (.iaload, 1) := by decide +kernel
theorem dL_turned_57 : decode cL_turned 57 = .ok (.irem, 1) := by decide +kernel
theorem dL_turned_58 : decode cL_turned 58 = .ok (.istore 5, 2) := by decide +kernel
theorem dL_turned_60 : decode cL_turned 60 = .ok (.iload 4, 2) := by decide +kernel
theorem dL_turned_62 : decode cL_turned 62 = .ok (.iload_n 3, 1) := by decide +kernel
theorem dL_turned_63 : decode cL_turned 63 = .ok (.ifCond .eq 11, 3) := by decide +kernel
theorem dL_turned_66 : decode cL_turned 66 = .ok (.aload_n 0, 1) := by decide +kernel
theorem dL_turned_67 : decode cL_turned 67 = .ok (.iconst 0, 1) := by decide +kernel
theorem dL_turned_68 : decode cL_turned 68 = .ok (.iaload, 1) := by decide +kernel
theorem dL_turned_69 : decode cL_turned 69 = .ok (.iconst 1, 1) := by decide +kernel
theorem dL_turned_70 : decode cL_turned 70 = .ok (.iadd, 1) := by decide +kernel
theorem dL_turned_71 : decode cL_turned 71 = .ok (.goto 6, 3) := by decide +kernel
theorem dL_turned_74 : decode cL_turned 74 = .ok (.aload_n 0, 1) := by decide +kernel
theorem dL_turned_75 : decode cL_turned 75 = .ok (.iconst 0, 1) := by decide +kernel
theorem dL_turned_76 : decode cL_turned 76 = .ok (.iaload, 1) := by decide +kernel
theorem dL_turned_77 : decode cL_turned 77 = .ok (.idiv, 1) := by decide +kernel
theorem dL_turned_78 : decode cL_turned 78 = .ok (.istore 6, 2) := by decide +kernel
theorem dL_turned_80 : decode cL_turned 80 = .ok (.iload_n 2, 1) := by decide +kernel
theorem dL_turned_81 : decode cL_turned 81 = .ok (.iconst 1, 1) := by decide +kernel
theorem dL_turned_82 : decode cL_turned 82 = .ok (.iand, 1) := by decide +kernel
theorem dL_turned_83 : decode cL_turned 83 = .ok (.iconst 1, 1) := by decide +kernel
theorem dL_turned_84 : decode cL_turned 84 = .ok (.if_icmp .ne 23, 3) := by decide +kernel
theorem dL_turned_87 : decode cL_turned 87 = .ok (.iload_n 3, 1) := by decide +kernel
theorem dL_turned_88 : decode cL_turned 88 = .ok (.ifCond .eq 9, 3) := by decide +kernel
theorem dL_turned_91 : decode cL_turned 91 = .ok (.aload_n 0, 1) := by decide +kernel
theorem dL_turned_92 : decode cL_turned 92 = .ok (.iconst 0, 1) := by decide +kernel
theorem dL_turned_93 : decode cL_turned 93 = .ok (.iaload, 1) := by decide +kernel
theorem dL_turned_94 : decode cL_turned 94 = .ok (.goto 8, 3) := by decide +kernel
theorem dL_turned_97 : decode cL_turned 97 = .ok (.aload_n 0, 1) := by decide +kernel
theorem dL_turned_98 : decode cL_turned 98 = .ok (.iconst 0, 1) := by decide +kernel
theorem dL_turned_99 : decode cL_turned 99 = .ok (.iaload, 1) := by decide +kernel
theorem dL_turned_100 : decode cL_turned 100 = .ok (.iconst 1, 1) := by decide +kernel
theorem dL_turned_101 : decode cL_turned 101 = .ok (.isub, 1) := by decide +kernel
theorem dL_turned_102 : decode cL_turned 102 = .ok (.iload 5, 2) := by decide +kernel
theorem dL_turned_104 : decode cL_turned 104 = .ok (.isub, 1) := by decide +kernel
theorem dL_turned_105 : decode cL_turned 105 = .ok (.istore 5, 2) := by decide +kernel
