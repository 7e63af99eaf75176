theorem dL_cell_0 : decode cL_cell 0 = .ok (.iload_n 1, 1) := by decide +kernel
theorem dL_cell_1 : decode cL_cell 1 = .ok (.aload_n 0, 1) := by decide +kernel
theorem dL_cell_2 : decode cL_cell 2 = .ok (.arraylength, 1) := by decide +kernel
theorem dL_cell_3 : decode cL_cell 3 = .ok (.if_icmp .ge 9, 3) := by decide +kernel
theorem dL_cell_6 : decode cL_cell 6 = .ok (.aload_n 0, 1) := by decide +kernel
theorem dL_cell_7 : decode cL_cell 7 = .ok (.iload_n 1, 1) := by decide +kernel
theorem dL_cell_8 : decode cL_cell 8 = .ok (.iaload, 1) := by decide +kernel
theorem dL_cell_9 : decode cL_cell 9 = .ok (.goto 9, 3) := by decide +kernel
theorem dL_cell_12 : decode cL_cell 12 = .ok (.ldc 7, 2) := by decide +kernel
theorem dL_cell_14 : decode cL_cell 14 = .ok (.iload_n 1, 1) := by decide +kernel
theorem dL_cell_15 : decode cL_cell 15 = .ok (.iconst 1, 1) := by decide +kernel
theorem dL_cell_16 : decode cL_cell 16 = .ok (.iadd, 1) := by decide +kernel
theorem dL_cell_17 : decode cL_cell 17 = .ok (.imul, 1) := by decide +kernel
theorem dL_cell_18 : decode cL_cell 18 = .ok (.ireturn, 1) := by decide +kernel
theorem dL_at_0 : decode cL_at 0 = .ok (.iload_n 0, 1) := by decide +kernel
theorem dL_at_1 : decode cL_at 1 = .ok (.iconst 1, 1) := by decide +kernel
theorem dL_at_2 : decode cL_at 2 = .ok (.iushr, 1) := by decide +kernel
theorem dL_at_3 : decode cL_at 3 = .ok (.iload_n 1, 1) := by decide +kernel
theorem dL_at_4 : decode cL_at 4 = .ok (.irem, 1) := by decide +kernel
theorem dL_at_5 : decode cL_at 5 = .ok (.ireturn, 1) := by decide +kernel
theorem dL_lines_0 : decode cL_lines 0 = .ok (.aload_n 0, 1) := by decide +kernel
theorem dL_lines_1 : decode cL_lines 1 = .ok (.iconst 0, 1) := by decide +kernel
theorem dL_lines_2 : decode cL_lines 2 = .ok (.iaload, 1) := by decide +kernel
theorem dL_lines_3 : decode cL_lines 3 = .ok (.aload_n 0, 1) := by decide +kernel
theorem dL_lines_4 : decode cL_lines 4 = .ok (.iconst 1, 1) := by decide +kernel
theorem dL_lines_5 : decode cL_lines 5 = .ok (.iaload, 1) := by decide +kernel
theorem dL_lines_6 : decode cL_lines 6 = .ok (.iconst 1, 1) := by decide +kernel
theorem dL_lines_7 : decode cL_lines 7 = .ok (.iadd, 1) := by decide +kernel
theorem dL_lines_8 : decode cL_lines 8 = .ok (.imul, 1) := by decide +kernel
theorem dL_lines_9 : decode cL_lines 9 = .ok (.aload_n 0, 1) := by decide +kernel
theorem dL_lines_10 : decode cL_lines 10 = .ok (.iconst 0, 1) := by decide +kernel
theorem dL_lines_11 : decode cL_lines 11 = .ok (.iaload, 1) := by decide +kernel
theorem dL_lines_12 : decode cL_lines 12 = .ok (.iconst 1, 1) := by decide +kernel
theorem dL_lines_13 : decode cL_lines 13 = .ok (.iadd, 1) := by decide +kernel
theorem dL_lines_14 : decode cL_lines 14 = .ok (.aload_n 0, 1) := by decide +kernel
theorem dL_lines_15 : decode cL_lines 15 = .ok (.iconst 1, 1) := by decide +kernel
theorem dL_lines_16 : decode cL_lines 16 = .ok (.iaload, 1) := by decide +kernel
theorem dL_lines_17 : decode cL_lines 17 = .ok (.imul, 1) := by decide +kernel
theorem dL_lines_18 : decode cL_lines 18 = .ok (.iadd, 1) := by decide +kernel
theorem dL_lines_19 : decode cL_lines 19 = .ok (.ireturn, 1) := by decide +kernel
theorem dL_flat_0 : decode cL_flat 0 = .ok (.aload_n 0, 1) := by decide +kernel
theorem dL_flat_1 : decode cL_flat 1 = .ok (.iconst 0, 1) := by decide +kernel
theorem dL_flat_2 : decode cL_flat 2 = .ok (.iaload, 1) := by decide +kernel
theorem dL_flat_3 : decode cL_flat 3 = .ok (.iload_n 2, 1) := by decide +kernel
theorem dL_flat_4 : decode cL_flat 4 = .ok (.imul, 1) := by decide +kernel
theorem dL_flat_5 : decode cL_flat 5 = .ok (.iload_n 1, 1) := by decide +kernel
theorem dL_flat_6 : decode cL_flat 6 = .ok (.iadd, 1) := by decide +kernel
theorem dL_flat_7 : decode cL_flat 7 = .ok (.ireturn, 1) := by decide +kernel
theorem dL_upright_0 : decode cL_upright 0 = .ok (.aload_n 0, 1) := by decide +kernel
theorem dL_upright_1 : decode cL_upright 1 = .ok (.iconst 0, 1) := by decide +kernel
theorem dL_upright_2 : decode cL_upright 2 = .ok (.iaload, 1) := by decide +kernel
theorem dL_upright_3 : decode cL_upright 3 = .ok (.aload_n 0, 1) := by decide +kernel
theorem dL_upright_4 : decode cL_upright 4 = .ok (.iconst 1, 1) := by decide +kernel
theorem dL_upright_5 : decode cL_upright 5 = .ok (.iaload, 1) := by decide +kernel
theorem dL_upright_6 : decode cL_upright 6 = .ok (.iconst 1, 1) := by decide +kernel
theorem dL_upright_7 : decode cL_upright 7 = .ok (.iadd, 1) := by decide +kernel
theorem dL_upright_8 : decode cL_upright 8 = .ok (.imul, 1) := by decide +kernel
theorem dL_upright_9 : decode cL_upright 9 = .ok (.aload_n 0, 1) := by decide +kernel
theorem dL_upright_10 : decode cL_upright 10 = .ok (.iconst 0, 1) := by decide +kernel
theorem dL_upright_11 : decode cL_upright 11 = .ok (.iaload, 1) := by decide +kernel
theorem dL_upright_12 : decode cL_upright 12 = .ok (.iconst 1, 1) := by decide +kernel
theorem dL_upright_13 : decode cL_upright 13 = .ok (.iadd, 1) := by decide +kernel
theorem dL_upright_14 : decode cL_upright 14 = .ok (.iload_n 2, 1) := by decide +kernel
theorem dL_upright_15 : decode cL_upright 15 = .ok (.imul, 1) := by decide +kernel
theorem dL_upright_16 : decode cL_upright 16 = .ok (.iadd, 1) := by decide +kernel
theorem dL_upright_17 : decode cL_upright 17 = .ok (.iload_n 1, 1) := by decide +kernel
theorem dL_upright_18 : decode cL_upright 18 = .ok (.iadd, 1) := by decide +kernel
theorem dL_upright_19 : decode cL_upright 19 = .ok (.ireturn, 1) := by decide +kernel
theorem dL_has_0 : decode cL_has 0 = .ok (.lload_n 0, 1) := by decide +kernel
theorem dL_has_1 : decode cL_has 1 = .ok (.iload_n 2, 1) := by decide +kernel
theorem dL_has_2 : decode cL_has 2 = .ok (.lushr, 1) := by decide +kernel
theorem dL_has_3 : decode cL_has 3 = .ok (.lconst 1, 1) := by decide +kernel
theorem dL_has_4 : decode cL_has 4 = .ok (.land, 1) := by decide +kernel
theorem dL_has_5 : decode cL_has 5 = .ok (.lconst 1, 1) := by decide +kernel
theorem dL_has_6 : decode cL_has 6 = .ok (.lcmp, 1) := by decide +kernel
theorem dL_has_7 : decode cL_has 7 = .ok (.ifCond .ne 7, 3) := by decide +kernel
theorem dL_has_10 : decode cL_has 10 = .ok (.iconst 1, 1) := by decide +kernel
theorem dL_has_11 : decode cL_has 11 = .ok (.goto 4, 3) := by decide +kernel
theorem dL_has_14 : decode cL_has 14 = .ok (.iconst 0, 1) := by decide +kernel
theorem dL_has_15 : decode cL_has 15 = .ok (.ireturn, 1) := by decide +kernel
set_option maxRecDepth 20000 in
theorem ggL_open_L_flat : GoodIn wsL_open wsL_flat := goodIn_r _ [4] (by decide +kernel) (by decide +kernel)
set_option maxRecDepth 20000 in
theorem gL_open_L_flat : GoodIn wsL_open (va_wsS RL 8 yL_flat wsL_flat) := goodIn_app (goodIn_of _ (by decide +kernel)) ggL_open_L_flat
set_option maxRecDepth 20000 in
theorem ggL_open_L_has : GoodIn wsL_open wsL_has := goodIn_r _ [7] (by decide +kernel) (by decide +kernel)
set_option maxRecDepth 20000 in
theorem gL_open_L_has : GoodIn wsL_open (va_wsS RL 14 yL_has wsL_has) := goodIn_app (goodIn_of _ (by decide +kernel)) ggL_open_L_has
set_option maxRecDepth 20000 in
theorem ggL_open_L_upright : GoodIn wsL_open wsL_upright := goodIn_r _ [10] (by decide +kernel) (by decide +kernel)
set_option maxRecDepth 20000 in
theorem gL_open_L_upright : GoodIn wsL_open (va_wsS RL 18 yL_upright wsL_upright) := goodIn_app (goodIn_of _ (by decide +kernel)) ggL_open_L_upright
theorem dL_open_0 : decode cL_open 0 = .ok (.iload_n 1, 1) := by decide +kernel
theorem dL_open_1 : decode cL_open 1 = .ok (.aload_n 0, 1) := by decide +kernel
theorem dL_open_2 : decode cL_open 2 = .ok (.iconst 0, 1) := by decide +kernel
theorem dL_open_3 : decode cL_open 3 = .ok (.iaload, 1) := by decide +kernel
theorem dL_open_4 : decode cL_open 4 = .ok (.irem, 1) := by decide +kernel
theorem dL_open_5 : decode cL_open 5 = .ok (.istore 4, 2) := by decide +kernel
theorem dL_open_7 : decode cL_open 7 = .ok (.iload_n 1, 1) := by decide +kernel
theorem dL_open_8 : decode cL_open 8 = .ok (.aload_n 0, 1) := by decide +kernel
theorem dL_open_9 : decode cL_open 9 = .ok (.iconst 0, 1) := by decide +kernel
theorem dL_open_10 : decode cL_open 10 = .ok (.iaload, 1) := by decide +kernel
theorem dL_open_11 : decode cL_open 11 = .ok (.idiv, 1) := by decide +kernel
theorem dL_open_12 : decode cL_open 12 = .ok (.istore 5, 2) := by decide +kernel
theorem dL_open_14 : decode cL_open 14 = .ok (.iconst 0, 1) := by decide +kernel
theorem dL_open_15 : decode cL_open 15 = .ok (.istore 6, 2) := by decide +kernel
theorem dL_open_17 : decode cL_open 17 = .ok (.lload_n 2, 1) := by decide +kernel
theorem dL_open_18 : decode cL_open 18 = .ok (.aload_n 0, 1) := by decide +kernel
theorem dL_open_19 : decode cL_open 19 = .ok (.iload 4, 2) := by decide +kernel
theorem dL_open_21 : decode cL_open 21 = .ok (.iload 5, 2) := by decide +kernel
theorem dL_open_23 : decode cL_open 23 = .ok (.invokestatic 8, 3) := by decide +kernel
theorem dL_open_26 : decode cL_open 26 = .ok (.invokestatic 14, 3) := by decide +kernel
theorem dL_open_29 : decode cL_open 29 = .ok (.ifCond .ne 6, 3) := by decide +kernel
theorem dL_open_32 : decode cL_open 32 = .ok (.iinc 6 1, 3) := by decide +kernel
theorem dL_open_35 : decode cL_open 35 = .ok (.lload_n 2, 1) := by decide +kernel
theorem dL_open_36 : decode cL_open 36 = .ok (.aload_n 0, 1) := by decide +kernel
theorem dL_open_37 : decode cL_open 37 = .ok (.iload 4, 2) := by decide +kernel
theorem dL_open_39 : decode cL_open 39 = .ok (.iload 5, 2) := by decide +kernel
theorem dL_open_41 : decode cL_open 41 = .ok (.iconst 1, 1) := by decide +kernel
theorem dL_open_42 : decode cL_open 42 = .ok (.iadd, 1) := by decide +kernel
theorem dL_open_43 : decode cL_open 43 = .ok (.invokestatic 8, 3) := by decide +kernel
theorem dL_open_46 : decode cL_open 46 = .ok (.invokestatic 14, 3) := by decide +kernel
theorem dL_open_49 : decode cL_open 49 = .ok (.ifCond .ne 6, 3) := by decide +kernel
theorem dL_open_52 : decode cL_open 52 = .ok (.iinc 6 1, 3) := by decide +kernel
theorem dL_open_55 : decode cL_open 55 = .ok (.lload_n 2, 1) := by decide +kernel
theorem dL_open_56 : decode cL_open 56 = .ok (.aload_n 0, 1) := by decide +kernel
theorem dL_open_57 : decode cL_open 57 = .ok (.iload 4, 2) := by decide +kernel
theorem dL_open_59 : decode cL_open 59 = .ok (.iload 5, 2) := by decide +kernel
theorem dL_open_61 : decode cL_open 61 = .ok (.invokestatic 18, 3) := by decide +kernel
theorem dL_open_64 : decode cL_open 64 = .ok (.invokestatic 14, 3) := by decide +kernel
theorem dL_open_67 : decode cL_open 67 = .ok (.ifCond .ne 6, 3) := by decide +kernel
theorem dL_open_70 : decode cL_open 70 = .ok (.iinc 6 1, 3) := by decide +kernel
theorem dL_open_73 : decode cL_open 73 = .ok (.lload_n 2, 1) := by decide +kernel
theorem dL_open_74 : decode cL_open 74 = .ok (.aload_n 0, 1) := by decide +kernel
theorem dL_open_75 : decode cL_open 75 = .ok (.iload 4, 2) := by decide +kernel
theorem dL_open_77 : decode cL_open 77 = .ok (.iconst 1, 1) := by decide +kernel
theorem dL_open_78 : decode cL_open 78 = .ok (.iadd, 1) := by decide +kernel
theorem dL_open_79 : decode cL_open 79 = .ok (.iload 5, 2) := by decide +kernel
theorem dL_open_81 : decode cL_open 81 = .ok (.invokestatic 18, 3) := by decide +kernel
theorem dL_open_84 : decode cL_open 84 = .ok (.invokestatic 14, 3) := by decide +kernel
theorem dL_open_87 : decode cL_open 87 = .ok (.ifCond .ne 6, 3) := by decide +kernel
theorem dL_open_90 : decode cL_open 90 = .ok (.iinc 6 1, 3) := by decide +kernel
theorem dL_open_93 : decode cL_open 93 = .ok (.iload 6, 2) := by decide +kernel
theorem dL_open_95 : decode cL_open 95 = .ok (.ireturn, 1) := by decide +kernel
set_option maxRecDepth 20000 in
theorem ggL_isSide_L_flat : GoodIn wsL_isSide wsL_flat := goodIn_r _ [4] (by decide +kernel) (by decide +kernel)
set_option maxRecDepth 20000 in
theorem gL_isSide_L_flat : GoodIn wsL_isSide (va_wsS RL 8 yL_flat wsL_flat) := goodIn_app (goodIn_of _ (by decide +kernel)) ggL_isSide_L_flat
set_option maxRecDepth 20000 in
theorem ggL_isSide_L_upright : GoodIn wsL_isSide wsL_upright := goodIn_r _ [7] (by decide +kernel) (by decide +kernel)
set_option maxRecDepth 20000 in
theorem gL_isSide_L_upright : GoodIn wsL_isSide (va_wsS RL 18 yL_upright wsL_upright) := goodIn_app (goodIn_of _ (by decide +kernel)) ggL_isSide_L_upright
theorem dL_isSide_0 : decode cL_isSide 0 = .ok (.iload_n 2, 1) := by decide +kernel
theorem dL_isSide_1 : decode cL_isSide 1 = .ok (.aload_n 0, 1) := by decide +kernel
theorem dL_isSide_2 : decode cL_isSide 2 = .ok (.iconst 0, 1) := by decide +kernel
theorem dL_isSide_3 : decode cL_isSide 3 = .ok (.iaload, 1) := by decide +kernel
theorem dL_isSide_4 : decode cL_isSide 4 = .ok (.irem, 1) := by decide +kernel
theorem dL_isSide_5 : decode cL_isSide 5 = .ok (.istore_n 3, 1) := by decide +kernel
theorem dL_isSide_6 : decode cL_isSide 6 = .ok (.iload_n 2, 1) := by decide +kernel
theorem dL_isSide_7 : decode cL_isSide 7 = .ok (.aload_n 0, 1) := by decide +kernel
theorem dL_isSide_8 : decode cL_isSide 8 = .ok (.iconst 0, 1) := by decide +kernel
theorem dL_isSide_9 : decode cL_isSide 9 = .ok (.iaload, 1) := by decide +kernel
theorem dL_isSide_10 : decode cL_isSide 10 = .ok (.idiv, 1) := by decide +kernel
theorem dL_isSide_11 : decode cL_isSide 11 = .ok (.istore 4, 2) := by decide +kernel
theorem dL_isSide_13 : decode cL_isSide 13 = .ok (.iload_n 1, 1) := by decide +kernel
theorem dL_isSide_14 : decode cL_isSide 14 = .ok (.aload_n 0, 1) := by decide +kernel
theorem dL_isSide_15 : decode cL_isSide 15 = .ok (.iload_n 3, 1) := by decide +kernel
theorem dL_isSide_16 : decode cL_isSide 16 = .ok (.iload 4, 2) := by decide +kernel
theorem dL_isSide_18 : decode cL_isSide 18 = .ok (.invokestatic 8, 3) := by decide +kernel
theorem dL_isSide_21 : decode cL_isSide 21 = .ok (.if_icmp .eq 40, 3) := by decide +kernel
theorem dL_isSide_24 : decode cL_isSide 24 = .ok (.iload_n 1, 1) := by decide +kernel
theorem dL_isSide_25 : decode cL_isSide 25 = .ok (.aload_n 0, 1) := by decide +kernel
theorem dL_isSide_26 : decode cL_isSide 26 = .ok (.iload_n 3, 1) := by decide +kernel
theorem dL_isSide_27 : decode cL_isSide 27 = .ok (.iload 4, 2) := by decide +kernel
theorem dL_isSide_29 : decode cL_isSide 29 = .ok (.iconst 1, 1) := by decide +kernel
theorem dL_isSide_30 : decode cL_isSide 30 = .ok (.iadd, 1) := by decide +kernel
theorem dL_isSide_31 : decode cL_isSide 31 = .ok (.invokestatic 8, 3) := by decide +kernel
theorem dL_isSide_34 : decode cL_isSide 34 = .ok (.if_icmp .eq 27, 3) := by decide +kernel
theorem dL_isSide_37 : decode cL_isSide 37 = .ok (.iload_n 1, 1) := by decide +kernel
theorem dL_isSide_38 : decode cL_isSide 38 = .ok (.aload_n 0, 1) := by decide +kernel
theorem dL_isSide_39 : decode cL_isSide 39 = .ok (.iload_n 3, 1) := by decide +kernel
theorem dL_isSide_40 : decode cL_isSide 40 = .ok (.iload 4, 2) := by decide +kernel
theorem dL_isSide_42 : decode cL_isSide 42 = .ok (.invokestatic 18, 3) := by decide +kernel
theorem dL_isSide_45 : decode cL_isSide 45 = .ok (.if_icmp .eq 16, 3) := by decide +kernel
theorem dL_isSide_48 : decode cL_isSide 48 = .ok (.iload_n 1, 1) := by decide +kernel
theorem dL_isSide_49 : decode cL_isSide 49 = .ok (.aload_n 0, 1) := by decide +kernel
theorem dL_isSide_50 : decode cL_isSide 50 = .ok (.iload_n 3, 1) := by decide +kernel
theorem dL_isSide_51 : decode cL_isSide 51 = .ok (.iconst 1, 1) := by decide +kernel
theorem dL_isSide_52 : decode cL_isSide 52 = .ok (.iadd, 1) := by decide +kernel
theorem dL_isSide_53 : decode cL_isSide 53 = .ok (.iload 4, 2) := by decide +kernel
theorem dL_isSide_55 : decode cL_isSide 55 = .ok (.invokestatic 18, 3) := by decide +kernel
theorem dL_isSide_58 : decode cL_isSide 58 = .ok (.if_icmp .ne 7, 3) := by decide +kernel
theorem dL_isSide_61 : decode cL_isSide 61 = .ok (.iconst 1, 1) := by decide +kernel
theorem dL_isSide_62 : decode cL_isSide 62 = .ok (.goto 4, 3) := by decide +kernel
theorem dL_isSide_65 : decode cL_isSide 65 = .ok (.iconst 0, 1) := by decide +kernel
theorem dL_isSide_66 : decode cL_isSide 66 = .ok (.ireturn, 1) := by decide +kernel
set_option maxRecDepth 20000 in
theorem ggL_with_L_open : GoodIn wsL_with wsL_open := goodIn_r _ [4, 5, 6, 3, 7, 8, 9, 10, 11, 12, 13] (by decide +kernel) (by decide +kernel)
set_option maxRecDepth 20000 in
theorem gL_with_L_open : GoodIn wsL_with (va_wsS RL 21 yL_open wsL_open) := goodIn_app (goodIn_of _ (by decide +kernel)) ggL_with_L_open
theorem dL_with_0 : decode cL_with 0 = .ok (.iconst 0, 1) := by decide +kernel
theorem dL_with_1 : decode cL_with 1 = .ok (.istore 4, 2) := by decide +kernel
theorem dL_with_3 : decode cL_with 3 = .ok (.iconst 0, 1) := by decide +kernel
theorem dL_with_4 : decode cL_with 4 = .ok (.istore 5, 2) := by decide +kernel
theorem dL_with_6 : decode cL_with 6 = .ok (.iload 5, 2) := by decide +kernel
theorem dL_with_8 : decode cL_with 8 = .ok (.aload_n 0, 1) := by decide +kernel
theorem dL_with_9 : decode cL_with 9 = .ok (.iconst 0, 1) := by decide +kernel
theorem dL_with_10 : decode cL_with 10 = .ok (.iaload, 1) := by decide +kernel
theorem dL_with_11 : decode cL_with 11 = .ok (.aload_n 0, 1) := by decide +kernel
theorem dL_with_12 : decode cL_with 12 = .ok (.iconst 1, 1) := by decide +kernel
theorem dL_with_13 : decode cL_with 13 = .ok (.iaload, 1) := by decide +kernel
theorem dL_with_14 : decode cL_with 14 = .ok (.imul, 1) := by decide +kernel
theorem dL_with_15 : decode cL_with 15 = .ok (.if_icmp .ge 23, 3) := by decide +kernel
theorem dL_with_18 : decode cL_with 18 = .ok (.aload_n 0, 1) := by decide +kernel
theorem dL_with_19 : decode cL_with 19 = .ok (.iload 5, 2) := by decide +kernel
theorem dL_with_21 : decode cL_with 21 = .ok (.lload_n 2, 1) := by decide +kernel
theorem dL_with_22 : decode cL_with 22 = .ok (.invokestatic 21, 3) := by decide +kernel
theorem dL_with_25 : decode cL_with 25 = .ok (.iload_n 1, 1) := by decide +kernel
theorem dL_with_26 : decode cL_with 26 = .ok (.if_icmp .ne 6, 3) := by decide +kernel
theorem dL_with_29 : decode cL_with 29 = .ok (.iinc 4 1, 3) := by decide +kernel
theorem dL_with_32 : decode cL_with 32 = .ok (.iinc 5 1, 3) := by decide +kernel
theorem dL_with_35 : decode cL_with 35 = .ok (.goto (-29), 3) := by decide +kernel
theorem dL_with_38 : decode cL_with 38 = .ok (.iload 4, 2) := by decide +kernel
theorem dL_with_40 : decode cL_with 40 = .ok (.ireturn, 1) := by decide +kernel
theorem dL_beside_0 : decode cL_beside 0 = .ok (.aload_n 0, 1) := by decide +kernel
theorem dL_beside_1 : decode cL_beside 1 = .ok (.iconst 0, 1) := by decide +kernel
theorem dL_beside_2 : decode cL_beside 2 = .ok (.iaload, 1) := by decide +kernel
theorem dL_beside_3 : decode cL_beside 3 = .ok (.aload_n 0, 1) := by decide +kernel
theorem dL_beside_4 : decode cL_beside 4 = .ok (.iconst 1, 1) := by decide +kernel
theorem dL_beside_5 : decode cL_beside 5 = .ok (.iaload, 1) := by decide +kernel
theorem dL_beside_6 : decode cL_beside 6 = .ok (.iconst 1, 1) := by decide +kernel
theorem dL_beside_7 : decode cL_beside 7 = .ok (.iadd, 1) := by decide +kernel
theorem dL_beside_8 : decode cL_beside 8 = .ok (.imul, 1) := by decide +kernel
theorem dL_beside_9 : decode cL_beside 9 = .ok (.istore_n 3, 1) := by decide +kernel
theorem dL_beside_10 : decode cL_beside 10 = .ok (.iload_n 1, 1) := by decide +kernel
theorem dL_beside_11 : decode cL_beside 11 = .ok (.iload_n 3, 1) := by decide +kernel
theorem dL_beside_12 : decode cL_beside 12 = .ok (.if_icmp .ge 44, 3) := by decide +kernel
theorem dL_beside_15 : decode cL_beside 15 = .ok (.iload_n 1, 1) := by decide +kernel
theorem dL_beside_16 : decode cL_beside 16 = .ok (.aload_n 0, 1) := by decide +kernel
theorem dL_beside_17 : decode cL_beside 17 = .ok (.iconst 0, 1) := by decide +kernel
theorem dL_beside_18 : decode cL_beside 18 = .ok (.iaload, 1) := by decide +kernel
theorem dL_beside_19 : decode cL_beside 19 = .ok (.idiv, 1) := by decide +kernel
theorem dL_beside_20 : decode cL_beside 20 = .ok (.iconst 1, 1) := by decide +kernel
theorem dL_beside_21 : decode cL_beside 21 = .ok (.isub, 1) := by decide +kernel
theorem dL_beside_22 : decode cL_beside 22 = .ok (.iload_n 2, 1) := by decide +kernel
theorem dL_beside_23 : decode cL_beside 23 = .ok (.iadd, 1) := by decide +kernel
theorem dL_beside_24 : decode cL_beside 24 = .ok (.istore 4, 2) := by decide +kernel
theorem dL_beside_26 : decode cL_beside 26 = .ok (.iload 4, 2) := by decide +kernel
theorem dL_beside_28 : decode cL_beside 28 = .ok (.ifCond .lt 11, 3) := by decide +kernel
theorem dL_beside_31 : decode cL_beside 31 = .ok (.iload 4, 2) := by decide +kernel
theorem dL_beside_33 : decode cL_beside 33 = .ok (.aload_n 0, 1) := by decide +kernel
theorem dL_beside_34 : decode cL_beside 34 = .ok (.iconst 1, 1) := by decide +kernel
theorem dL_beside_35 : decode cL_beside 35 = .ok (.iaload, 1) := by decide +kernel
theorem dL_beside_36 : decode cL_beside 36 = .ok (.if_icmp .lt 7, 3) := by decide +kernel
theorem dL_beside_39 : decode cL_beside 39 = .ok (.iconst (-1), 1) := by decide +kernel
theorem dL_beside_40 : decode cL_beside 40 = .ok (.goto 15, 3) := by decide +kernel
theorem dL_beside_43 : decode cL_beside 43 = .ok (.aload_n 0, 1) := by decide +kernel
theorem dL_beside_44 : decode cL_beside 44 = .ok (.iconst 0, 1) := by decide +kernel
theorem dL_beside_45 : decode cL_beside 45 = .ok (.iaload, 1) := by decide +kernel
theorem dL_beside_46 : decode cL_beside 46 = .ok (.iload 4, 2) := by decide +kernel
theorem dL_beside_48 : decode cL_beside 48 = .ok (.imul, 1) := by decide +kernel
theorem dL_beside_49 : decode cL_beside 49 = .ok (.iload_n 1, 1) := by decide +kernel
theorem dL_beside_50 : decode cL_beside 50 = .ok (.aload_n 0, 1) := by decide +kernel
theorem dL_beside_51 : decode cL_beside 51 = .ok (.iconst 0, 1) := by decide +kernel
theorem dL_beside_52 : decode cL_beside 52 = .ok (.iaload, 1) := by decide +kernel
theorem dL_beside_53 : decode cL_beside 53 = .ok (.irem, 1) := by decide +kernel
theorem dL_beside_54 : decode cL_beside 54 = .ok (.iadd, 1) := by decide +kernel
theorem dL_beside_55 : decode cL_beside 55 = .ok (.ireturn, 1) := by decide +kernel
theorem dL_beside_56 : decode cL_beside 56 = .ok (.iload_n 1, 1) := by decide +kernel
theorem dL_beside_57 : decode cL_beside 57 = .ok (.iload_n 3, 1) := by decide +kernel
theorem dL_beside_58 : decode cL_beside 58 = .ok (.isub, 1) := by decide +kernel
theorem dL_beside_59 : decode cL_beside 59 = .ok (.aload_n 0, 1) := by decide +kernel
theorem dL_beside_60 : decode cL_beside 60 = .ok (.iconst 0, 1) := by decide +kernel
theorem dL_beside_61 : decode cL_beside 61 = .ok (.iaload, 1) := by decide +kernel
theorem dL_beside_62 : decode cL_beside 62 = .ok (.iconst 1, 1) := by decide +kernel
theorem dL_beside_63 : decode cL_beside 63 = .ok (.iadd, 1) := by decide +kernel
theorem dL_beside_64 : decode cL_beside 64 = .ok (.irem, 1) := by decide +kernel
theorem dL_beside_65 : decode cL_beside 65 = .ok (.iconst 1, 1) := by decide +kernel
theorem dL_beside_66 : decode cL_beside 66 = .ok (.isub, 1) := by decide +kernel
theorem dL_beside_67 : decode cL_beside 67 = .ok (.iload_n 2, 1) := by decide +kernel
theorem dL_beside_68 : decode cL_beside 68 = .ok (.iadd, 1) := by decide +kernel
theorem dL_beside_69 : decode cL_beside 69 = .ok (.istore 4, 2) := by decide +kernel
theorem dL_beside_71 : decode cL_beside 71 = .ok (.iload 4, 2) := by decide +kernel
theorem dL_beside_73 : decode cL_beside 73 = .ok (.ifCond .lt 11, 3) := by decide +kernel
theorem dL_beside_76 : decode cL_beside 76 = .ok (.iload 4, 2) := by decide +kernel
theorem dL_beside_78 : decode cL_beside 78 = .ok (.aload_n 0, 1) := by decide +kernel
theorem dL_beside_79 : decode cL_beside 79 = .ok (.iconst 0, 1) := by decide +kernel
theorem dL_beside_80 : decode cL_beside 80 = .ok (.iaload, 1) := by decide +kernel
theorem dL_beside_81 : decode cL_beside 81 = .ok (.if_icmp .lt 7, 3) := by decide +kernel
theorem dL_beside_84 : decode cL_beside 84 = .ok (.iconst (-1), 1) := by decide +kernel
theorem dL_beside_85 : decode cL_beside 85 = .ok (.goto 19, 3) := by decide +kernel
theorem dL_beside_88 : decode cL_beside 88 = .ok (.aload_n 0, 1) := by decide +kernel
theorem dL_beside_89 : decode cL_beside 89 = .ok (.iconst 0, 1) := by decide +kernel
theorem dL_beside_90 : decode cL_beside 90 = .ok (.iaload, 1) := by decide +kernel
theorem dL_beside_91 : decode cL_beside 91 = .ok (.iload_n 1, 1) := by decide +kernel
theorem dL_beside_92 : decode cL_beside 92 = .ok (.iload_n 3, 1) := by decide +kernel
theorem dL_beside_93 : decode cL_beside 93 = .ok (.isub, 1) := by decide +kernel
theorem dL_beside_94 : decode cL_beside 94 = .ok (.aload_n 0, 1) := by decide +kernel
theorem dL_beside_95 : decode cL_beside 95 = .ok (.iconst 0, 1) := by decide +kernel
theorem dL_beside_96 : decode cL_beside 96 = .ok (.iaload, 1) := by decide +kernel
theorem dL_beside_97 : decode cL_beside 97 = .ok (.iconst 1, 1) := by decide +kernel
theorem dL_beside_98 : decode cL_beside 98 = .ok (.iadd, 1) := by decide +kernel
theorem dL_beside_99 : decode cL_beside 99 = .ok (.idiv, 1) := by decide +kernel
theorem dL_beside_100 : decode cL_beside 100 = .ok (.imul, 1) := by decide +kernel
theorem dL_beside_101 : decode cL_beside 101 = .ok (.iload 4, 2) := by decide +kernel
theorem dL_beside_103 : decode cL_beside 103 = .ok (.iadd, 1) := by decide +kernel
theorem dL_beside_104 : decode cL_beside 104 = .ok (.ireturn, 1) := by decide +kernel
set_option maxRecDepth 20000 in
theorem ggL_gain_L_beside : GoodIn wsL_gain wsL_beside := goodIn_r _ [4] (by decide +kernel) (by decide +kernel)
set_option maxRecDepth 20000 in
theorem gL_gain_L_beside : GoodIn wsL_gain (va_wsS RL 25 yL_beside wsL_beside) := goodIn_app (goodIn_of _ (by decide +kernel)) ggL_gain_L_beside
set_option maxRecDepth 20000 in
theorem ggL_gain_L_has : GoodIn wsL_gain wsL_has := goodIn_r _ [7] (by decide +kernel) (by decide +kernel)
set_option maxRecDepth 20000 in
theorem gL_gain_L_has : GoodIn wsL_gain (va_wsS RL 14 yL_has wsL_has) := goodIn_app (goodIn_of _ (by decide +kernel)) ggL_gain_L_has
set_option maxRecDepth 20000 in
theorem ggL_gain_L_open : GoodIn wsL_gain wsL_open := goodIn_r _ [10, 11, 12, 3, 13, 5, 6, 7, 14, 15, 16] (by decide +kernel) (by decide +kernel)
set_option maxRecDepth 20000 in
theorem gL_gain_L_open : GoodIn wsL_gain (va_wsS RL 21 yL_open wsL_open) := goodIn_app (goodIn_of _ (by decide +kernel)) ggL_gain_L_open
theorem dL_gain_0 : decode cL_gain 0 = .ok (.iconst 0, 1) := by decide +kernel
theorem dL_gain_1 : decode cL_gain 1 = .ok (.istore 4, 2) := by decide +kernel
theorem dL_gain_3 : decode cL_gain 3 = .ok (.iconst 0, 1) := by decide +kernel
theorem dL_gain_4 : decode cL_gain 4 = .ok (.istore 5, 2) := by decide +kernel
theorem dL_gain_6 : decode cL_gain 6 = .ok (.iload 5, 2) := by decide +kernel
theorem dL_gain_8 : decode cL_gain 8 = .ok (.iconst 2, 1) := by decide +kernel
theorem dL_gain_9 : decode cL_gain 9 = .ok (.if_icmp .ge 46, 3) := by decide +kernel
theorem dL_gain_12 : decode cL_gain 12 = .ok (.aload_n 0, 1) := by decide +kernel
theorem dL_gain_13 : decode cL_gain 13 = .ok (.iload_n 1, 1) := by decide +kernel
theorem dL_gain_14 : decode cL_gain 14 = .ok (.iload 5, 2) := by decide +kernel
theorem dL_gain_16 : decode cL_gain 16 = .ok (.invokestatic 25, 3) := by decide +kernel
theorem dL_gain_19 : decode cL_gain 19 = .ok (.ifCond .lt 30, 3) := by decide +kernel
theorem dL_gain_22 : decode cL_gain 22 = .ok (.lload_n 2, 1) := by decide +kernel
theorem dL_gain_23 : decode cL_gain 23 = .ok (.iload_n 1, 1) := by decide +kernel
theorem dL_gain_24 : decode cL_gain 24 = .ok (.invokestatic 14, 3) := by decide +kernel
theorem dL_gain_27 : decode cL_gain 27 = .ok (.ifCond .ne 22, 3) := by decide +kernel
theorem dL_gain_30 : decode cL_gain 30 = .ok (.aload_n 0, 1) := by decide +kernel
theorem dL_gain_31 : decode cL_gain 31 = .ok (.aload_n 0, 1) := by decide +kernel
theorem dL_gain_32 : decode cL_gain 32 = .ok (.iload_n 1, 1) := by decide +kernel
theorem dL_gain_33 : decode cL_gain 33 = .ok (.iload 5, 2) := by decide +kernel
theorem dL_gain_35 : decode cL_gain 35 = .ok (.invokestatic 25, 3) := by decide +kernel
theorem dL_gain_38 : decode cL_gain 38 = .ok (.lload_n 2, 1) := by decide +kernel
theorem dL_gain_39 : decode cL_gain 39 = .ok (.invokestatic 21, 3) := by decide +kernel
theorem dL_gain_42 : decode cL_gain 42 = .ok (.iconst 1, 1) := by decide +kernel
theorem dL_gain_43 : decode cL_gain 43 = .ok (.if_icmp .ne 6, 3) := by decide +kernel
theorem dL_gain_46 : decode cL_gain 46 = .ok (.iinc 4 1, 3) := by decide +kernel
theorem dL_gain_49 : decode cL_gain 49 = .ok (.iinc 5 1, 3) := by decide +kernel
theorem dL_gain_52 : decode cL_gain 52 = .ok (.goto (-46), 3) := by decide +kernel
theorem dL_gain_55 : decode cL_gain 55 = .ok (.iload 4, 2) := by decide +kernel
theorem dL_gain_57 : decode cL_gain 57 = .ok (.ireturn, 1) := by decide +kernel
set_option maxRecDepth 20000 in
theorem ggL_kind_L_has : GoodIn wsL_kind wsL_has := goodIn_r _ [4] (by decide +kernel) (by decide +kernel)
set_option maxRecDepth 20000 in
theorem gL_kind_L_has : GoodIn wsL_kind (va_wsS RL 14 yL_has wsL_has) := goodIn_app (goodIn_of _ (by decide +kernel)) ggL_kind_L_has
set_option maxRecDepth 20000 in
theorem ggL_kind_L_gain : GoodIn wsL_kind wsL_gain := goodIn_r _ [7, 8, 9, 3, 10, 1, 2, 4, 11, 12, 13, 14, 15, 16, 17, 18, 19] (by decide +kernel) (by decide +kernel)
set_option maxRecDepth 20000 in
theorem gL_kind_L_gain : GoodIn wsL_kind (va_wsS RL 28 yL_gain wsL_gain) := goodIn_app (goodIn_of _ (by decide +kernel)) ggL_kind_L_gain
set_option maxRecDepth 20000 in
theorem ggL_kind_L_beside : GoodIn wsL_kind wsL_beside := goodIn_r _ [10] (by decide +kernel) (by decide +kernel)
set_option maxRecDepth 20000 in
theorem gL_kind_L_beside : GoodIn wsL_kind (va_wsS RL 25 yL_beside wsL_beside) := goodIn_app (goodIn_of _ (by decide +kernel)) ggL_kind_L_beside
set_option maxRecDepth 20000 in
theorem ggL_kind_L_open : GoodIn wsL_kind wsL_open := goodIn_r _ [13, 14, 15, 3, 16, 1, 2, 4, 17, 18, 19] (by decide +kernel) (by decide +kernel)
set_option maxRecDepth 20000 in
theorem gL_kind_L_open : GoodIn wsL_kind (va_wsS RL 21 yL_open wsL_open) := goodIn_app (goodIn_of _ (by decide +kernel)) ggL_kind_L_open
theorem dL_kind_0 : decode cL_kind 0 = .ok (.lload_n 2, 1) := by decide +kernel
theorem dL_kind_1 : decode cL_kind 1 = .ok (.iload_n 1, 1) := by decide +kernel
theorem dL_kind_2 : decode cL_kind 2 = .ok (.invokestatic 14, 3) := by decide +kernel
theorem dL_kind_5 : decode cL_kind 5 = .ok (.ifCond .eq 5, 3) := by decide +kernel
theorem dL_kind_8 : decode cL_kind 8 = .ok (.iconst 0, 1) := by decide +kernel
theorem dL_kind_9 : decode cL_kind 9 = .ok (.ireturn, 1) := by decide +kernel
theorem dL_kind_10 : decode cL_kind 10 = .ok (.aload_n 0, 1) := by decide +kernel
theorem dL_kind_11 : decode cL_kind 11 = .ok (.iload_n 1, 1) := by decide +kernel
theorem dL_kind_12 : decode cL_kind 12 = .ok (.lload_n 2, 1) := by decide +kernel
theorem dL_kind_13 : decode cL_kind 13 = .ok (.invokestatic 28, 3) := by decide +kernel
theorem dL_kind_16 : decode cL_kind 16 = .ok (.ifCond .le 5, 3) := by decide +kernel
theorem dL_kind_19 : decode cL_kind 19 = .ok (.iconst 1, 1) := by decide +kernel
theorem dL_kind_20 : decode cL_kind 20 = .ok (.ireturn, 1) := by decide +kernel
theorem dL_kind_21 : decode cL_kind 21 = .ok (.iconst 0, 1) := by decide +kernel
theorem dL_kind_22 : decode cL_kind 22 = .ok (.istore 4, 2) := by decide +kernel
theorem dL_kind_24 : decode cL_kind 24 = .ok (.iload 4, 2) := by decide +kernel
theorem dL_kind_26 : decode cL_kind 26 = .ok (.iconst 2, 1) := by decide +kernel
theorem dL_kind_27 : decode cL_kind 27 = .ok (.if_icmp .ge 37, 3) := by decide +kernel
theorem dL_kind_30 : decode cL_kind 30 = .ok (.aload_n 0, 1) := by decide +kernel
theorem dL_kind_31 : decode cL_kind 31 = .ok (.iload_n 1, 1) := by decide +kernel
theorem dL_kind_32 : decode cL_kind 32 = .ok (.iload 4, 2) := by decide +kernel
theorem dL_kind_34 : decode cL_kind 34 = .ok (.invokestatic 25, 3) := by decide +kernel
theorem dL_kind_37 : decode cL_kind 37 = .ok (.ifCond .lt 21, 3) := by decide +kernel
theorem dL_kind_40 : decode cL_kind 40 = .ok (.aload_n 0, 1) := by decide +kernel
theorem dL_kind_41 : decode cL_kind 41 = .ok (.aload_n 0, 1) := by decide +kernel
theorem dL_kind_42 : decode cL_kind 42 = .ok (.iload_n 1, 1) := by decide +kernel
theorem dL_kind_43 : decode cL_kind 43 = .ok (.iload 4, 2) := by decide +kernel
theorem dL_kind_45 : decode cL_kind 45 = .ok (.invokestatic 25, 3) := by decide +kernel
theorem dL_kind_48 : decode cL_kind 48 = .ok (.lload_n 2, 1) := by decide +kernel
theorem dL_kind_49 : decode cL_kind 49 = .ok (.invokestatic 21, 3) := by decide +kernel
theorem dL_kind_52 : decode cL_kind 52 = .ok (.iconst 2, 1) := by decide +kernel
theorem dL_kind_53 : decode cL_kind 53 = .ok (.if_icmp .ne 5, 3) := by decide +kernel
theorem dL_kind_56 : decode cL_kind 56 = .ok (.iconst 3, 1) := by decide +kernel
theorem dL_kind_57 : decode cL_kind 57 = .ok (.ireturn, 1) := by decide +kernel
theorem dL_kind_58 : decode cL_kind 58 = .ok (.iinc 4 1, 3) := by decide +kernel
theorem dL_kind_61 : decode cL_kind 61 = .ok (.goto (-37), 3) := by decide +kernel
theorem dL_kind_64 : decode cL_kind 64 = .ok (.iconst 2, 1) := by decide +kernel
theorem dL_kind_65 : decode cL_kind 65 = .ok (.ireturn, 1) := by decide +kernel
set_option maxRecDepth 20000 in
theorem ggL_first_L_lines : GoodIn wsL_first wsL_lines := goodIn_r _ [4] (by decide +kernel) (by decide +kernel)
set_option maxRecDepth 20000 in
theorem gL_first_L_lines : GoodIn wsL_first (va_wsS RL 31 yL_lines wsL_lines) := goodIn_app (goodIn_of _ (by decide +kernel)) ggL_first_L_lines
set_option maxRecDepth 20000 in
theorem ggL_first_L_kind : GoodIn wsL_first wsL_kind := goodIn_r _ [7, 8, 9, 3, 10, 11, 12, 13, 14, 15, 16, 17, 18, 19, 20, 21, 22, 23, 24, 25] (by decide +kernel) (by decide +kernel)
set_option maxRecDepth 20000 in
theorem gL_first_L_kind : GoodIn wsL_first (va_wsS RL 35 yL_kind wsL_kind) := goodIn_app (goodIn_of _ (by decide +kernel)) ggL_first_L_kind
theorem dL_first_0 : decode cL_first 0 = .ok (.iconst 0, 1) := by decide +kernel
theorem dL_first_1 : decode cL_first 1 = .ok (.istore 4, 2) := by decide +kernel
theorem dL_first_3 : decode cL_first 3 = .ok (.iload 4, 2) := by decide +kernel
theorem dL_first_5 : decode cL_first 5 = .ok (.aload_n 0, 1) := by decide +kernel
theorem dL_first_6 : decode cL_first 6 = .ok (.invokestatic 31, 3) := by decide +kernel
theorem dL_first_9 : decode cL_first 9 = .ok (.if_icmp .ge 23, 3) := by decide +kernel
theorem dL_first_12 : decode cL_first 12 = .ok (.aload_n 0, 1) := by decide +kernel
theorem dL_first_13 : decode cL_first 13 = .ok (.iload 4, 2) := by decide +kernel
theorem dL_first_15 : decode cL_first 15 = .ok (.lload_n 2, 1) := by decide +kernel
theorem dL_first_16 : decode cL_first 16 = .ok (.invokestatic 35, 3) := by decide +kernel
theorem dL_first_19 : decode cL_first 19 = .ok (.iload_n 1, 1) := by decide +kernel
theorem dL_first_20 : decode cL_first 20 = .ok (.if_icmp .ne 6, 3) := by decide +kernel
theorem dL_first_23 : decode cL_first 23 = .ok (.iload 4, 2) := by decide +kernel
theorem dL_first_25 : decode cL_first 25 = .ok (.ireturn, 1) := by decide +kernel
theorem dL_first_26 : decode cL_first 26 = .ok (.iinc 4 1, 3) := by decide +kernel
theorem dL_first_29 : decode cL_first 29 = .ok (.goto (-26), 3) := by decide +kernel
theorem dL_first_32 : decode cL_first 32 = .ok (.iconst (-1), 1) := by decide +kernel
theorem dL_first_33 : decode cL_first 33 = .ok (.ireturn, 1) := by decide +kernel
set_option maxRecDepth 20000 in
theorem ggL_run_L_first : GoodIn wsL_run wsL_first := goodIn_r _ [4, 5, 6, 3, 7, 8, 9, 10, 11, 12, 13, 14, 15, 16, 17, 18, 19, 20, 21, 22, 23, 24, 25, 26, 27, 28] (by decide +kernel) (by decide +kernel)
set_option maxRecDepth 20000 in
theorem gL_run_L_first : GoodIn wsL_run (va_wsS RL 38 yL_first wsL_first) := goodIn_app (goodIn_of _ (by decide +kernel)) ggL_run_L_first
set_option maxRecDepth 20000 in
theorem ggL_run_L_with : GoodIn wsL_run wsL_with := goodIn_r _ [31, 20, 21, 3, 22, 23, 24, 25, 11, 12, 13, 26, 27, 28] (by decide +kernel) (by decide +kernel)
set_option maxRecDepth 20000 in
theorem gL_run_L_with : GoodIn wsL_run (va_wsS RL 41 yL_with wsL_with) := goodIn_app (goodIn_of _ (by decide +kernel)) ggL_run_L_with
theorem dL_run_0 : decode cL_run 0 = .ok (.lload_n 1, 1) := by decide +kernel
theorem dL_run_1 : decode cL_run 1 = .ok (.lstore_n 3, 1) := by decide +kernel
theorem dL_run_2 : decode cL_run 2 = .ok (.aload_n 0, 1) := by decide +kernel
theorem dL_run_3 : decode cL_run 3 = .ok (.iconst 1, 1) := by decide +kernel
theorem dL_run_4 : decode cL_run 4 = .ok (.lload_n 3, 1) := by decide +kernel
theorem dL_run_5 : decode cL_run 5 = .ok (.invokestatic 38, 3) := by decide +kernel
theorem dL_run_8 : decode cL_run 8 = .ok (.istore 5, 2) := by decide +kernel
theorem dL_run_10 : decode cL_run 10 = .ok (.iload 5, 2) := by decide +kernel
theorem dL_run_12 : decode cL_run 12 = .ok (.ifCond .lt 21, 3) := by decide +kernel
theorem dL_run_15 : decode cL_run 15 = .ok (.lload_n 3, 1) := by decide +kernel
theorem dL_run_16 : decode cL_run 16 = .ok (.lconst 1, 1) := by decide +kernel
theorem dL_run_17 : decode cL_run 17 = .ok (.iload 5, 2) := by decide +kernel
theorem dL_run_19 : decode cL_run 19 = .ok (.lshl, 1) := by decide +kernel
theorem dL_run_20 : decode cL_run 20 = .ok (.lor, 1) := by decide +kernel
theorem dL_run_21 : decode cL_run 21 = .ok (.lstore_n 3, 1) := by decide +kernel
theorem dL_run_22 : decode cL_run 22 = .ok (.aload_n 0, 1) := by decide +kernel
theorem dL_run_23 : decode cL_run 23 = .ok (.iconst 1, 1) := by decide +kernel
theorem dL_run_24 : decode cL_run 24 = .ok (.lload_n 3, 1) := by decide +kernel
theorem dL_run_25 : decode cL_run 25 = .ok (.invokestatic 38, 3) := by decide +kernel
theorem dL_run_28 : decode cL_run 28 = .ok (.istore 5, 2) := by decide +kernel
theorem dL_run_30 : decode cL_run 30 = .ok (.goto (-20), 3) := by decide +kernel
theorem dL_run_33 : decode cL_run 33 = .ok (.aload_n 0, 1) := by decide +kernel
theorem dL_run_34 : decode cL_run 34 = .ok (.iconst 0, 1) := by decide +kernel
theorem dL_run_35 : decode cL_run 35 = .ok (.lload_n 3, 1) := by decide +kernel
theorem dL_run_36 : decode cL_run 36 = .ok (.invokestatic 41, 3) := by decide +kernel
theorem dL_run_39 : decode cL_run 39 = .ok (.aload_n 0, 1) := by decide +kernel
theorem dL_run_40 : decode cL_run 40 = .ok (.iconst 0, 1) := by decide +kernel
theorem dL_run_41 : decode cL_run 41 = .ok (.lload_n 1, 1) := by decide +kernel
theorem dL_run_42 : decode cL_run 42 = .ok (.invokestatic 41, 3) := by decide +kernel
theorem dL_run_45 : decode cL_run 45 = .ok (.isub, 1) := by decide +kernel
theorem dL_run_46 : decode cL_run 46 = .ok (.ireturn, 1) := by decide +kernel
set_option maxRecDepth 20000 in
theorem ggL_name_L_open : GoodIn wsL_name wsL_open := goodIn_r _ [4, 5, 6, 3, 7, 8, 9, 10, 11, 12, 13] (by decide +kernel) (by decide +kernel)
set_option maxRecDepth 20000 in
theorem gL_name_L_open : GoodIn wsL_name (va_wsS RL 21 yL_open wsL_open) := goodIn_app (goodIn_of _ (by decide +kernel)) ggL_name_L_open
set_option maxRecDepth 20000 in
theorem ggL_name_L_upright : GoodIn wsL_name wsL_upright := goodIn_r _ [13] (by decide +kernel) (by decide +kernel)
set_option maxRecDepth 20000 in
theorem gL_name_L_upright : GoodIn wsL_name (va_wsS RL 18 yL_upright wsL_upright) := goodIn_app (goodIn_of _ (by decide +kernel)) ggL_name_L_upright
set_option maxRecDepth 20000 in
theorem ggL_name_L_has : GoodIn wsL_name wsL_has := goodIn_r _ [10] (by decide +kernel) (by decide +kernel)
set_option maxRecDepth 20000 in
theorem gL_name_L_has : GoodIn wsL_name (va_wsS RL 14 yL_has wsL_has) := goodIn_app (goodIn_of _ (by decide +kernel)) ggL_name_L_has
set_option maxRecDepth 20000 in
theorem ggL_name_L_flat : GoodIn wsL_name wsL_flat := goodIn_r _ [7] (by decide +kernel) (by decide +kernel)
set_option maxRecDepth 20000 in
theorem gL_name_L_flat : GoodIn wsL_name (va_wsS RL 8 yL_flat wsL_flat) := goodIn_app (goodIn_of _ (by decide +kernel)) ggL_name_L_flat
set_option maxRecDepth 20000 in
theorem ggL_name_L_joins : GoodIn wsL_name wsL_joins := goodIn_r _ [16] (by decide +kernel) (by decide +kernel)
set_option maxRecDepth 20000 in
theorem gL_name_L_joins : GoodIn wsL_name (va_wsS RL 44 yL_joins wsL_joins) := goodIn_app (goodIn_of _ (by decide +kernel)) ggL_name_L_joins
theorem dL_name_0 : decode cL_name 0 = .ok (.iconst 0, 1) := by decide +kernel
theorem dL_name_1 : decode cL_name 1 = .ok (.istore 4, 2) := by decide +kernel
theorem dL_name_3 : decode cL_name 3 = .ok (.iload 4, 2) := by decide +kernel
theorem dL_name_5 : decode cL_name 5 = .ok (.bipush 16, 2) := by decide +kernel
theorem dL_name_7 : decode cL_name 7 = .ok (.if_icmp .ge 52, 3) := by decide +kernel
theorem dL_name_10 : decode cL_name 10 = .ok (.aload_n 3, 1) := by decide +kernel
theorem dL_name_11 : decode cL_name 11 = .ok (.iload 4, 2) := by decide +kernel
theorem dL_name_13 : decode cL_name 13 = .ok (.iload 4, 2) := by decide +kernel
theorem dL_name_15 : decode cL_name 15 = .ok (.aload_n 0, 1) := by decide +kernel
theorem dL_name_16 : decode cL_name 16 = .ok (.iconst 0, 1) := by decide +kernel
theorem dL_name_17 : decode cL_name 17 = .ok (.iaload, 1) := by decide +kernel
theorem dL_name_18 : decode cL_name 18 = .ok (.aload_n 0, 1) := by decide +kernel
theorem dL_name_19 : decode cL_name 19 = .ok (.iconst 1, 1) := by decide +kernel
theorem dL_name_20 : decode cL_name 20 = .ok (.iaload, 1) := by decide +kernel
theorem dL_name_21 : decode cL_name 21 = .ok (.imul, 1) := by decide +kernel
theorem dL_name_22 : decode cL_name 22 = .ok (.if_icmp .ge 29, 3) := by decide +kernel
theorem dL_name_25 : decode cL_name 25 = .ok (.aload_n 0, 1) := by decide +kernel
theorem dL_name_26 : decode cL_name 26 = .ok (.iload 4, 2) := by decide +kernel
theorem dL_name_28 : decode cL_name 28 = .ok (.lload_n 1, 1) := by decide +kernel
theorem dL_name_29 : decode cL_name 29 = .ok (.invokestatic 21, 3) := by decide +kernel
theorem dL_name_32 : decode cL_name 32 = .ok (.ifCond .le 19, 3) := by decide +kernel
theorem dL_name_35 : decode cL_name 35 = .ok (.aload_n 0, 1) := by decide +kernel
theorem dL_name_36 : decode cL_name 36 = .ok (.iload 4, 2) := by decide +kernel
theorem dL_name_38 : decode cL_name 38 = .ok (.lload_n 1, 1) := by decide +kernel
theorem dL_name_39 : decode cL_name 39 = .ok (.invokestatic 21, 3) := by decide +kernel
theorem dL_name_42 : decode cL_name 42 = .ok (.iconst 3, 1) := by decide +kernel
theorem dL_name_43 : decode cL_name 43 = .ok (.if_icmp .ge 8, 3) := by decide +kernel
theorem dL_name_46 : decode cL_name 46 = .ok (.iload 4, 2) := by decide +kernel
theorem dL_name_48 : decode cL_name 48 = .ok (.goto 4, 3) := by decide +kernel
theorem dL_name_51 : decode cL_name 51 = .ok (.iconst (-1), 1) := by decide +kernel
theorem dL_name_52 : decode cL_name 52 = .ok (.iastore, 1) := by decide +kernel
theorem dL_name_53 : decode cL_name 53 = .ok (.iinc 4 1, 3) := by decide +kernel
theorem dL_name_56 : decode cL_name 56 = .ok (.goto (-53), 3) := by decide +kernel
theorem dL_name_59 : decode cL_name 59 = .ok (.iconst 1, 1) := by decide +kernel
theorem dL_name_60 : decode cL_name 60 = .ok (.istore 4, 2) := by decide +kernel
theorem dL_name_62 : decode cL_name 62 = .ok (.iload 4, 2) := by decide +kernel
theorem dL_name_64 : decode cL_name 64 = .ok (.ifCond .eq 153, 3) := by decide +kernel
theorem dL_name_67 : decode cL_name 67 = .ok (.iconst 0, 1) := by decide +kernel
theorem dL_name_68 : decode cL_name 68 = .ok (.istore 4, 2) := by decide +kernel
theorem dL_name_70 : decode cL_name 70 = .ok (.iconst 0, 1) := by decide +kernel
theorem dL_name_71 : decode cL_name 71 = .ok (.istore 5, 2) := by decide +kernel
theorem dL_name_73 : decode cL_name 73 = .ok (.iload 5, 2) := by decide +kernel
theorem dL_name_75 : decode cL_name 75 = .ok (.aload_n 0, 1) := by decide +kernel
theorem dL_name_76 : decode cL_name 76 = .ok (.iconst 0, 1) := by decide +kernel
theorem dL_name_77 : decode cL_name 77 = .ok (.iaload, 1) := by decide +kernel
theorem dL_name_78 : decode cL_name 78 = .ok (.aload_n 0, 1) := by decide +kernel
theorem dL_name_79 : decode cL_name 79 = .ok (.iconst 1, 1) := by decide +kernel
theorem dL_name_80 : decode cL_name 80 = .ok (.iaload, 1) := by decide +kernel
theorem dL_name_81 : decode cL_name 81 = .ok (.imul, 1) := by decide +kernel
theorem dL_name_82 : decode cL_name 82 = .ok (.if_icmp .ge 132, 3) := by decide +kernel
theorem dL_name_85 : decode cL_name 85 = .ok (.iload 5, 2) := by decide +kernel
theorem dL_name_87 : decode cL_name 87 = .ok (.aload_n 0, 1) := by decide +kernel
theorem dL_name_88 : decode cL_name 88 = .ok (.iconst 0, 1) := by decide +kernel
theorem dL_name_89 : decode cL_name 89 = .ok (.iaload, 1) := by decide +kernel
theorem dL_name_90 : decode cL_name 90 = .ok (.irem, 1) := by decide +kernel
theorem dL_name_91 : decode cL_name 91 = .ok (.aload_n 0, 1) := by decide +kernel
theorem dL_name_92 : decode cL_name 92 = .ok (.iconst 0, 1) := by decide +kernel
theorem dL_name_93 : decode cL_name 93 = .ok (.iaload, 1) := by decide +kernel
theorem dL_name_94 : decode cL_name 94 = .ok (.iconst 1, 1) := by decide +kernel
theorem dL_name_95 : decode cL_name 95 = .ok (.isub, 1) := by decide +kernel
theorem dL_name_96 : decode cL_name 96 = .ok (.if_icmp .ge 35, 3) := by decide +kernel
theorem dL_name_99 : decode cL_name 99 = .ok (.lload_n 1, 1) := by decide +kernel
theorem dL_name_100 : decode cL_name 100 = .ok (.aload_n 0, 1) := by decide +kernel
theorem dL_name_101 : decode cL_name 101 = .ok (.iload 5, 2) := by decide +kernel
theorem dL_name_103 : decode cL_name 103 = .ok (.aload_n 0, 1) := by decide +kernel
theorem dL_name_104 : decode cL_name 104 = .ok (.iconst 0, 1) := by decide +kernel
theorem dL_name_105 : decode cL_name 105 = .ok (.iaload, 1) := by decide +kernel
theorem dL_name_106 : decode cL_name 106 = .ok (.irem, 1) := by decide +kernel
theorem dL_name_107 : decode cL_name 107 = .ok (.iconst 1, 1) := by decide +kernel
theorem dL_name_108 : decode cL_name 108 = .ok (.iadd, 1) := by decide +kernel
theorem dL_name_109 : decode cL_name 109 = .ok (.iload 5, 2) := by decide +kernel
theorem dL_name_111 : decode cL_name 111 = .ok (.aload_n 0, 1) := by decide +kernel
theorem dL_name_112 : decode cL_name 112 = .ok (.iconst 0, 1) := by decide +kernel
theorem dL_name_113 : decode cL_name 113 = .ok (.iaload, 1) := by decide +kernel
theorem dL_name_114 : decode cL_name 114 = .ok (.idiv, 1) := by decide +kernel
theorem dL_name_115 : decode cL_name 115 = .ok (.invokestatic 18, 3) := by decide +kernel
theorem dL_name_118 : decode cL_name 118 = .ok (.invokestatic 14, 3) := by decide +kernel
theorem dL_name_121 : decode cL_name 121 = .ok (.ifCond .ne 10, 3) := by decide +kernel
theorem dL_name_124 : decode cL_name 124 = .ok (.iload 5, 2) := by decide +kernel
theorem dL_name_126 : decode cL_name 126 = .ok (.iconst 1, 1) := by decide +kernel
theorem dL_name_127 : decode cL_name 127 = .ok (.iadd, 1) := by decide +kernel
theorem dL_name_128 : decode cL_name 128 = .ok (.goto 4, 3) := by decide +kernel
theorem dL_name_131 : decode cL_name 131 = .ok (.iconst (-1), 1) := by decide +kernel
theorem dL_name_132 : decode cL_name 132 = .ok (.istore 6, 2) := by decide +kernel
theorem dL_name_134 : decode cL_name 134 = .ok (.iload 5, 2) := by decide +kernel
theorem dL_name_136 : decode cL_name 136 = .ok (.aload_n 0, 1) := by decide +kernel
theorem dL_name_137 : decode cL_name 137 = .ok (.iconst 0, 1) := by decide +kernel
theorem dL_name_138 : decode cL_name 138 = .ok (.iaload, 1) := by decide +kernel
theorem dL_name_139 : decode cL_name 139 = .ok (.idiv, 1) := by decide +kernel
theorem dL_name_140 : decode cL_name 140 = .ok (.aload_n 0, 1) := by decide +kernel
theorem dL_name_141 : decode cL_name 141 = .ok (.iconst 1, 1) := by decide +kernel
theorem dL_name_142 : decode cL_name 142 = .ok (.iaload, 1) := by decide +kernel
theorem dL_name_143 : decode cL_name 143 = .ok (.iconst 1, 1) := by decide +kernel
theorem dL_name_144 : decode cL_name 144 = .ok (.isub, 1) := by decide +kernel
theorem dL_name_145 : decode cL_name 145 = .ok (.if_icmp .ge 37, 3) := by decide +kernel
theorem dL_name_148 : decode cL_name 148 = .ok (.lload_n 1, 1) := by decide +kernel
theorem dL_name_149 : decode cL_name 149 = .ok (.aload_n 0, 1) := by decide +kernel
theorem dL_name_150 : decode cL_name 150 = .ok (.iload 5, 2) := by decide +kernel
theorem dL_name_152 : decode cL_name 152 = .ok (.aload_n 0, 1) := by decide +kernel
theorem dL_name_153 : decode cL_name 153 = .ok (.iconst 0, 1) := by decide +kernel
theorem dL_name_154 : decode cL_name 154 = .ok (.iaload, 1) := by decide +kernel
theorem dL_name_155 : decode cL_name 155 = .ok (.irem, 1) := by decide +kernel
theorem dL_name_156 : decode cL_name 156 = .ok (.iload 5, 2) := by decide +kernel
theorem dL_name_158 : decode cL_name 158 = .ok (.aload_n 0, 1) := by decide +kernel
theorem dL_name_159 : decode cL_name 159 = .ok (.iconst 0, 1) := by decide +kernel
theorem dL_name_160 : decode cL_name 160 = .ok (.iaload, 1) := by decide +kernel
theorem dL_name_161 : decode cL_name 161 = .ok (.idiv, 1) := by decide +kernel
theorem dL_name_162 : decode cL_name 162 = .ok (.iconst 1, 1) := by decide +kernel
theorem dL_name_163 : decode cL_name 163 = .ok (.iadd, 1) := by decide +kernel
theorem dL_name_164 : decode cL_name 164 = .ok (.invokestatic 8, 3) := by decide +kernel
theorem dL_name_167 : decode cL_name 167 = .ok (.invokestatic 14, 3) := by decide +kernel
theorem dL_name_170 : decode cL_name 170 = .ok (.ifCond .ne 12, 3) := by decide +kernel
theorem dL_name_173 : decode cL_name 173 = .ok (.iload 5, 2) := by decide +kernel
theorem dL_name_175 : decode cL_name 175 = .ok (.aload_n 0, 1) := by decide +kernel
theorem dL_name_176 : decode cL_name 176 = .ok (.iconst 0, 1) := by decide +kernel
theorem dL_name_177 : decode cL_name 177 = .ok (.iaload, 1) := by decide +kernel
theorem dL_name_178 : decode cL_name 178 = .ok (.iadd, 1) := by decide +kernel
theorem dL_name_179 : decode cL_name 179 = .ok (.goto 4, 3) := by decide +kernel
theorem dL_name_182 : decode cL_name 182 = .ok (.iconst (-1), 1) := by decide +kernel
theorem dL_name_183 : decode cL_name 183 = .ok (.istore 7, 2) := by decide +kernel
theorem dL_name_185 : decode cL_name 185 = .ok (.aload_n 3, 1) := by decide +kernel
theorem dL_name_186 : decode cL_name 186 = .ok (.iload 5, 2) := by decide +kernel
theorem dL_name_188 : decode cL_name 188 = .ok (.iload 6, 2) := by decide +kernel
theorem dL_name_190 : decode cL_name 190 = .ok (.invokestatic 44, 3) := by decide +kernel
theorem dL_name_193 : decode cL_name 193 = .ok (.aload_n 3, 1) := by decide +kernel
theorem dL_name_194 : decode cL_name 194 = .ok (.iload 5, 2) := by decide +kernel
theorem dL_name_196 : decode cL_name 196 = .ok (.iload 7, 2) := by decide +kernel
theorem dL_name_198 : decode cL_name 198 = .ok (.invokestatic 44, 3) := by decide +kernel
theorem dL_name_201 : decode cL_name 201 = .ok (.ior, 1) := by decide +kernel
theorem dL_name_202 : decode cL_name 202 = .ok (.ifCond .eq 6, 3) := by decide +kernel
theorem dL_name_205 : decode cL_name 205 = .ok (.iconst 1, 1) := by decide +kernel
theorem dL_name_206 : decode cL_name 206 = .ok (.istore 4, 2) := by decide +kernel
theorem dL_name_208 : decode cL_name 208 = .ok (.iinc 5 1, 3) := by decide +kernel
theorem dL_name_211 : decode cL_name 211 = .ok (.goto (-138), 3) := by decide +kernel
theorem dL_name_214 : decode cL_name 214 = .ok (.goto (-152), 3) := by decide +kernel
theorem dL_name_217 : decode cL_name 217 = .ok (.iconst 0, 1) := by decide +kernel
theorem dL_name_218 : decode cL_name 218 = .ok (.istore 5, 2) := by decide +kernel
theorem dL_name_220 : decode cL_name 220 = .ok (.iconst 0, 1) := by decide +kernel
theorem dL_name_221 : decode cL_name 221 = .ok (.istore 6, 2) := by decide +kernel
theorem dL_name_223 : decode cL_name 223 = .ok (.iload 6, 2) := by decide +kernel
theorem dL_name_225 : decode cL_name 225 = .ok (.bipush 16, 2) := by decide +kernel
theorem dL_name_227 : decode cL_name 227 = .ok (.if_icmp .ge 21, 3) := by decide +kernel
theorem dL_name_230 : decode cL_name 230 = .ok (.aload_n 3, 1) := by decide +kernel
theorem dL_name_231 : decode cL_name 231 = .ok (.iload 6, 2) := by decide +kernel
theorem dL_name_233 : decode cL_name 233 = .ok (.iaload, 1) := by decide +kernel
theorem dL_name_234 : decode cL_name 234 = .ok (.iload 6, 2) := by decide +kernel
theorem dL_name_236 : decode cL_name 236 = .ok (.if_icmp .ne 6, 3) := by decide +kernel
theorem dL_name_239 : decode cL_name 239 = .ok (.iinc 5 1, 3) := by decide +kernel
theorem dL_name_242 : decode cL_name 242 = .ok (.iinc 6 1, 3) := by decide +kernel
theorem dL_name_245 : decode cL_name 245 = .ok (.goto (-22), 3) := by decide +kernel
theorem dL_name_248 : decode cL_name 248 = .ok (.iload 5, 2) := by decide +kernel
theorem dL_name_250 : decode cL_name 250 = .ok (.ireturn, 1) := by decide +kernel
theorem dL_joins_0 : decode cL_joins 0 = .ok (.iload_n 2, 1) := by decide +kernel
theorem dL_joins_1 : decode cL_joins 1 = .ok (.ifCond .lt 24, 3) := by decide +kernel
theorem dL_joins_4 : decode cL_joins 4 = .ok (.aload_n 0, 1) := by decide +kernel
theorem dL_joins_5 : decode cL_joins 5 = .ok (.iload_n 1, 1) := by decide +kernel
theorem dL_joins_6 : decode cL_joins 6 = .ok (.iaload, 1) := by decide +kernel
theorem dL_joins_7 : decode cL_joins 7 = .ok (.ifCond .lt 18, 3) := by decide +kernel
theorem dL_joins_10 : decode cL_joins 10 = .ok (.aload_n 0, 1) := by decide +kernel
theorem dL_joins_11 : decode cL_joins 11 = .ok (.iload_n 2, 1) := by decide +kernel
theorem dL_joins_12 : decode cL_joins 12 = .ok (.iaload, 1) := by decide +kernel
theorem dL_joins_13 : decode cL_joins 13 = .ok (.ifCond .lt 12, 3) := by decide +kernel
theorem dL_joins_16 : decode cL_joins 16 = .ok (.aload_n 0, 1) := by decide +kernel
theorem dL_joins_17 : decode cL_joins 17 = .ok (.iload_n 1, 1) := by decide +kernel
theorem dL_joins_18 : decode cL_joins 18 = .ok (.iaload, 1) := by decide +kernel
theorem dL_joins_19 : decode cL_joins 19 = .ok (.aload_n 0, 1) := by decide +kernel
theorem dL_joins_20 : decode cL_joins 20 = .ok (.iload_n 2, 1) := by decide +kernel
