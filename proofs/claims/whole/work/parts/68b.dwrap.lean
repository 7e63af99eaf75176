theorem dL_begin_0 : decode cL_begin 0 = .ok (.aload_n 3, 1) := by decide +kernel
theorem dL_begin_1 : decode cL_begin 1 = .ok (.iconst 0, 1) := by decide +kernel
theorem dL_begin_2 : decode cL_begin 2 = .ok (.aload_n 0, 1) := by decide +kernel
theorem dL_begin_3 : decode cL_begin 3 = .ok (.iload_n 1, 1) := by decide +kernel
theorem dL_begin_4 : decode cL_begin 4 = .ok (.iload_n 2, 1) := by decide +kernel
theorem dL_begin_5 : decode cL_begin 5 = .ok (.invokevirtual 7, 3) := by decide +kernel
theorem dL_begin_8 : decode cL_begin 8 = .ok (.i2l, 1) := by decide +kernel
theorem dL_begin_9 : decode cL_begin 9 = .ok (.lastore, 1) := by decide +kernel
theorem dL_begin_10 : decode cL_begin 10 = .ok (.goto 7, 3) := by decide +kernel
theorem dL_begin_13 : decode cL_begin 13 = .ok (.astore 4, 2) := by decide +kernel
theorem dL_begin_15 : decode cL_begin 15 = .ok (.iconst 1, 1) := by decide +kernel
theorem dL_begin_16 : decode cL_begin 16 = .ok (.ireturn, 1) := by decide +kernel
theorem dL_begin_17 : decode cL_begin 17 = .ok (.iconst 0, 1) := by decide +kernel
theorem dL_begin_18 : decode cL_begin 18 = .ok (.ireturn, 1) := by decide +kernel
theorem dL_draw_0 : decode cL_draw 0 = .ok (.aload_n 2, 1) := by decide +kernel
theorem dL_draw_1 : decode cL_draw 1 = .ok (.iconst 0, 1) := by decide +kernel
theorem dL_draw_2 : decode cL_draw 2 = .ok (.aload_n 0, 1) := by decide +kernel
theorem dL_draw_3 : decode cL_draw 3 = .ok (.iload_n 1, 1) := by decide +kernel
theorem dL_draw_4 : decode cL_draw 4 = .ok (.invokevirtual 15, 3) := by decide +kernel
theorem dL_draw_7 : decode cL_draw 7 = .ok (.i2l, 1) := by decide +kernel
theorem dL_draw_8 : decode cL_draw 8 = .ok (.lastore, 1) := by decide +kernel
theorem dL_draw_9 : decode cL_draw 9 = .ok (.goto 9, 3) := by decide +kernel
theorem dL_draw_12 : decode cL_draw 12 = .ok (.astore_n 3, 1) := by decide +kernel
theorem dL_draw_13 : decode cL_draw 13 = .ok (.iconst 1, 1) := by decide +kernel
theorem dL_draw_14 : decode cL_draw 14 = .ok (.ireturn, 1) := by decide +kernel
theorem dL_draw_15 : decode cL_draw 15 = .ok (.astore_n 3, 1) := by decide +kernel
theorem dL_draw_16 : decode cL_draw 16 = .ok (.iconst 2, 1) := by decide +kernel
theorem dL_draw_17 : decode cL_draw 17 = .ok (.ireturn, 1) := by decide +kernel
theorem dL_draw_18 : decode cL_draw 18 = .ok (.iconst 0, 1) := by decide +kernel
theorem dL_draw_19 : decode cL_draw 19 = .ok (.ireturn, 1) := by decide +kernel
theorem dL_undo_0 : decode cL_undo 0 = .ok (.aload_n 1, 1) := by decide +kernel
theorem dL_undo_1 : decode cL_undo 1 = .ok (.iconst 0, 1) := by decide +kernel
theorem dL_undo_2 : decode cL_undo 2 = .ok (.aload_n 0, 1) := by decide +kernel
theorem dL_undo_3 : decode cL_undo 3 = .ok (.invokevirtual 23, 3) := by decide +kernel
theorem dL_undo_6 : decode cL_undo 6 = .ok (.i2l, 1) := by decide +kernel
theorem dL_undo_7 : decode cL_undo 7 = .ok (.lastore, 1) := by decide +kernel
theorem dL_undo_8 : decode cL_undo 8 = .ok (.goto 6, 3) := by decide +kernel
theorem dL_undo_11 : decode cL_undo 11 = .ok (.astore_n 2, 1) := by decide +kernel
theorem dL_undo_12 : decode cL_undo 12 = .ok (.iconst 1, 1) := by decide +kernel
theorem dL_undo_13 : decode cL_undo 13 = .ok (.ireturn, 1) := by decide +kernel
theorem dL_undo_14 : decode cL_undo 14 = .ok (.iconst 0, 1) := by decide +kernel
theorem dL_undo_15 : decode cL_undo 15 = .ok (.ireturn, 1) := by decide +kernel
theorem dL_follow_0 : decode cL_follow 0 = .ok (.aload_n 3, 1) := by decide +kernel
theorem dL_follow_1 : decode cL_follow 1 = .ok (.iconst 0, 1) := by decide +kernel
theorem dL_follow_2 : decode cL_follow 2 = .ok (.aload_n 0, 1) := by decide +kernel
theorem dL_follow_3 : decode cL_follow 3 = .ok (.iload_n 1, 1) := by decide +kernel
theorem dL_follow_4 : decode cL_follow 4 = .ok (.iload_n 2, 1) := by decide +kernel
theorem dL_follow_5 : decode cL_follow 5 = .ok (.invokevirtual 27, 3) := by decide +kernel
theorem dL_follow_8 : decode cL_follow 8 = .ok (.i2l, 1) := by decide +kernel
theorem dL_follow_9 : decode cL_follow 9 = .ok (.lastore, 1) := by decide +kernel
theorem dL_follow_10 : decode cL_follow 10 = .ok (.goto 7, 3) := by decide +kernel
theorem dL_follow_13 : decode cL_follow 13 = .ok (.astore 4, 2) := by decide +kernel
theorem dL_follow_15 : decode cL_follow 15 = .ok (.iconst 1, 1) := by decide +kernel
theorem dL_follow_16 : decode cL_follow 16 = .ok (.ireturn, 1) := by decide +kernel
theorem dL_follow_17 : decode cL_follow 17 = .ok (.iconst 0, 1) := by decide +kernel
theorem dL_follow_18 : decode cL_follow 18 = .ok (.ireturn, 1) := by decide +kernel
theorem dL_append_0 : decode cL_append 0 = .ok (.aload_n 2, 1) := by decide +kernel
theorem dL_append_1 : decode cL_append 1 = .ok (.iconst 0, 1) := by decide +kernel
theorem dL_append_2 : decode cL_append 2 = .ok (.aload_n 0, 1) := by decide +kernel
theorem dL_append_3 : decode cL_append 3 = .ok (.iload_n 1, 1) := by decide +kernel
theorem dL_append_4 : decode cL_append 4 = .ok (.invokevirtual 30, 3) := by decide +kernel
theorem dL_append_7 : decode cL_append 7 = .ok (.i2l, 1) := by decide +kernel
theorem dL_append_8 : decode cL_append 8 = .ok (.lastore, 1) := by decide +kernel
theorem dL_append_9 : decode cL_append 9 = .ok (.goto 9, 3) := by decide +kernel
theorem dL_append_12 : decode cL_append 12 = .ok (.astore_n 3, 1) := by decide +kernel
theorem dL_append_13 : decode cL_append 13 = .ok (.iconst 1, 1) := by decide +kernel
theorem dL_append_14 : decode cL_append 14 = .ok (.ireturn, 1) := by decide +kernel
theorem dL_append_15 : decode cL_append 15 = .ok (.astore_n 3, 1) := by decide +kernel
theorem dL_append_16 : decode cL_append 16 = .ok (.iconst 2, 1) := by decide +kernel
theorem dL_append_17 : decode cL_append 17 = .ok (.ireturn, 1) := by decide +kernel
theorem dL_append_18 : decode cL_append 18 = .ok (.iconst 0, 1) := by decide +kernel
theorem dL_append_19 : decode cL_append 19 = .ok (.ireturn, 1) := by decide +kernel
theorem dL_load_0 : decode cL_load 0 = .ok (.aload_n 1, 1) := by decide +kernel
theorem dL_load_1 : decode cL_load 1 = .ok (.iconst 0, 1) := by decide +kernel
theorem dL_load_2 : decode cL_load 2 = .ok (.aload_n 0, 1) := by decide +kernel
theorem dL_load_3 : decode cL_load 3 = .ok (.invokevirtual 33, 3) := by decide +kernel
theorem dL_load_6 : decode cL_load 6 = .ok (.i2l, 1) := by decide +kernel
theorem dL_load_7 : decode cL_load 7 = .ok (.lastore, 1) := by decide +kernel
theorem dL_load_8 : decode cL_load 8 = .ok (.goto 9, 3) := by decide +kernel
theorem dL_load_11 : decode cL_load 11 = .ok (.astore_n 2, 1) := by decide +kernel
theorem dL_load_12 : decode cL_load 12 = .ok (.iconst 1, 1) := by decide +kernel
theorem dL_load_13 : decode cL_load 13 = .ok (.ireturn, 1) := by decide +kernel
theorem dL_load_14 : decode cL_load 14 = .ok (.astore_n 2, 1) := by decide +kernel
theorem dL_load_15 : decode cL_load 15 = .ok (.iconst 2, 1) := by decide +kernel
theorem dL_load_16 : decode cL_load 16 = .ok (.ireturn, 1) := by decide +kernel
theorem dL_load_17 : decode cL_load 17 = .ok (.iconst 0, 1) := by decide +kernel
theorem dL_load_18 : decode cL_load 18 = .ok (.ireturn, 1) := by decide +kernel
theorem dL_count_0 : decode cL_count 0 = .ok (.aload_n 2, 1) := by decide +kernel
theorem dL_count_1 : decode cL_count 1 = .ok (.iconst 0, 1) := by decide +kernel
theorem dL_count_2 : decode cL_count 2 = .ok (.aload_n 0, 1) := by decide +kernel
theorem dL_count_3 : decode cL_count 3 = .ok (.iload_n 1, 1) := by decide +kernel
theorem dL_count_4 : decode cL_count 4 = .ok (.invokevirtual 36, 3) := by decide +kernel
theorem dL_count_7 : decode cL_count 7 = .ok (.i2l, 1) := by decide +kernel
theorem dL_count_8 : decode cL_count 8 = .ok (.lastore, 1) := by decide +kernel
theorem dL_count_9 : decode cL_count 9 = .ok (.goto 6, 3) := by decide +kernel
theorem dL_count_12 : decode cL_count 12 = .ok (.astore_n 3, 1) := by decide +kernel
theorem dL_count_13 : decode cL_count 13 = .ok (.iconst 1, 1) := by decide +kernel
theorem dL_count_14 : decode cL_count 14 = .ok (.ireturn, 1) := by decide +kernel
theorem dL_count_15 : decode cL_count 15 = .ok (.iconst 0, 1) := by decide +kernel
theorem dL_count_16 : decode cL_count 16 = .ok (.ireturn, 1) := by decide +kernel
theorem dL_score_0 : decode cL_score 0 = .ok (.aload_n 2, 1) := by decide +kernel
theorem dL_score_1 : decode cL_score 1 = .ok (.iconst 0, 1) := by decide +kernel
theorem dL_score_2 : decode cL_score 2 = .ok (.aload_n 0, 1) := by decide +kernel
theorem dL_score_3 : decode cL_score 3 = .ok (.iload_n 1, 1) := by decide +kernel
theorem dL_score_4 : decode cL_score 4 = .ok (.invokevirtual 39, 3) := by decide +kernel
theorem dL_score_7 : decode cL_score 7 = .ok (.i2l, 1) := by decide +kernel
theorem dL_score_8 : decode cL_score 8 = .ok (.lastore, 1) := by decide +kernel
theorem dL_score_9 : decode cL_score 9 = .ok (.goto 6, 3) := by decide +kernel
theorem dL_score_12 : decode cL_score 12 = .ok (.astore_n 3, 1) := by decide +kernel
theorem dL_score_13 : decode cL_score 13 = .ok (.iconst 1, 1) := by decide +kernel
theorem dL_score_14 : decode cL_score 14 = .ok (.ireturn, 1) := by decide +kernel
theorem dL_score_15 : decode cL_score 15 = .ok (.iconst 0, 1) := by decide +kernel
theorem dL_score_16 : decode cL_score 16 = .ok (.ireturn, 1) := by decide +kernel
theorem dL_line_0 : decode cL_line 0 = .ok (.aload 4, 2) := by decide +kernel
theorem dL_line_2 : decode cL_line 2 = .ok (.iconst 0, 1) := by decide +kernel
theorem dL_line_3 : decode cL_line 3 = .ok (.aload_n 0, 1) := by decide +kernel
theorem dL_line_4 : decode cL_line 4 = .ok (.iload_n 1, 1) := by decide +kernel
theorem dL_line_5 : decode cL_line 5 = .ok (.iload_n 2, 1) := by decide +kernel
theorem dL_line_6 : decode cL_line 6 = .ok (.iload_n 3, 1) := by decide +kernel
theorem dL_line_7 : decode cL_line 7 = .ok (.invokevirtual 42, 3) := by decide +kernel
theorem dL_line_10 : decode cL_line 10 = .ok (.i2l, 1) := by decide +kernel
theorem dL_line_11 : decode cL_line 11 = .ok (.lastore, 1) := by decide +kernel
theorem dL_line_12 : decode cL_line 12 = .ok (.goto 7, 3) := by decide +kernel
theorem dL_line_15 : decode cL_line 15 = .ok (.astore 5, 2) := by decide +kernel
theorem dL_line_17 : decode cL_line 17 = .ok (.iconst 1, 1) := by decide +kernel
theorem dL_line_18 : decode cL_line 18 = .ok (.ireturn, 1) := by decide +kernel
theorem dL_line_19 : decode cL_line 19 = .ok (.iconst 0, 1) := by decide +kernel
theorem dL_line_20 : decode cL_line 20 = .ok (.ireturn, 1) := by decide +kernel
theorem dL_kind_0 : decode cL_kind 0 = .ok (.aload_n 2, 1) := by decide +kernel
theorem dL_kind_1 : decode cL_kind 1 = .ok (.iconst 0, 1) := by decide +kernel
theorem dL_kind_2 : decode cL_kind 2 = .ok (.aload_n 0, 1) := by decide +kernel
theorem dL_kind_3 : decode cL_kind 3 = .ok (.iload_n 1, 1) := by decide +kernel
theorem dL_kind_4 : decode cL_kind 4 = .ok (.invokevirtual 46, 3) := by decide +kernel
theorem dL_kind_7 : decode cL_kind 7 = .ok (.i2l, 1) := by decide +kernel
theorem dL_kind_8 : decode cL_kind 8 = .ok (.lastore, 1) := by decide +kernel
theorem dL_kind_9 : decode cL_kind 9 = .ok (.goto 6, 3) := by decide +kernel
theorem dL_kind_12 : decode cL_kind 12 = .ok (.astore_n 3, 1) := by decide +kernel
theorem dL_kind_13 : decode cL_kind 13 = .ok (.iconst 1, 1) := by decide +kernel
theorem dL_kind_14 : decode cL_kind 14 = .ok (.ireturn, 1) := by decide +kernel
theorem dL_kind_15 : decode cL_kind 15 = .ok (.iconst 0, 1) := by decide +kernel
theorem dL_kind_16 : decode cL_kind 16 = .ok (.ireturn, 1) := by decide +kernel
theorem dL_price_0 : decode cL_price 0 = .ok (.aload_n 2, 1) := by decide +kernel
theorem dL_price_1 : decode cL_price 1 = .ok (.iconst 0, 1) := by decide +kernel
theorem dL_price_2 : decode cL_price 2 = .ok (.aload_n 0, 1) := by decide +kernel
theorem dL_price_3 : decode cL_price 3 = .ok (.iload_n 1, 1) := by decide +kernel
theorem dL_price_4 : decode cL_price 4 = .ok (.invokevirtual 49, 3) := by decide +kernel
theorem dL_price_7 : decode cL_price 7 = .ok (.i2l, 1) := by decide +kernel
theorem dL_price_8 : decode cL_price 8 = .ok (.lastore, 1) := by decide +kernel
theorem dL_price_9 : decode cL_price 9 = .ok (.goto 9, 3) := by decide +kernel
theorem dL_price_12 : decode cL_price 12 = .ok (.astore_n 3, 1) := by decide +kernel
theorem dL_price_13 : decode cL_price 13 = .ok (.iconst 1, 1) := by decide +kernel
theorem dL_price_14 : decode cL_price 14 = .ok (.ireturn, 1) := by decide +kernel
theorem dL_price_15 : decode cL_price 15 = .ok (.astore_n 3, 1) := by decide +kernel
theorem dL_price_16 : decode cL_price 16 = .ok (.iconst 2, 1) := by decide +kernel
theorem dL_price_17 : decode cL_price 17 = .ok (.ireturn, 1) := by decide +kernel
theorem dL_price_18 : decode cL_price 18 = .ok (.iconst 0, 1) := by decide +kernel
theorem dL_price_19 : decode cL_price 19 = .ok (.ireturn, 1) := by decide +kernel
theorem dL_drawn_0 : decode cL_drawn 0 = .ok (.aload_n 2, 1) := by decide +kernel
theorem dL_drawn_1 : decode cL_drawn 1 = .ok (.iconst 0, 1) := by decide +kernel
theorem dL_drawn_2 : decode cL_drawn 2 = .ok (.aload_n 0, 1) := by decide +kernel
theorem dL_drawn_3 : decode cL_drawn 3 = .ok (.iload_n 1, 1) := by decide +kernel
theorem dL_drawn_4 : decode cL_drawn 4 = .ok (.invokevirtual 52, 3) := by decide +kernel
theorem dL_drawn_7 : decode cL_drawn 7 = .ok (.i2l, 1) := by decide +kernel
theorem dL_drawn_8 : decode cL_drawn 8 = .ok (.lastore, 1) := by decide +kernel
theorem dL_drawn_9 : decode cL_drawn 9 = .ok (.goto 6, 3) := by decide +kernel
theorem dL_drawn_12 : decode cL_drawn 12 = .ok (.astore_n 3, 1) := by decide +kernel
theorem dL_drawn_13 : decode cL_drawn 13 = .ok (.iconst 1, 1) := by decide +kernel
theorem dL_drawn_14 : decode cL_drawn 14 = .ok (.ireturn, 1) := by decide +kernel
theorem dL_drawn_15 : decode cL_drawn 15 = .ok (.iconst 0, 1) := by decide +kernel
theorem dL_drawn_16 : decode cL_drawn 16 = .ok (.ireturn, 1) := by decide +kernel
theorem dL_owner_0 : decode cL_owner 0 = .ok (.aload_n 2, 1) := by decide +kernel
theorem dL_owner_1 : decode cL_owner 1 = .ok (.iconst 0, 1) := by decide +kernel
theorem dL_owner_2 : decode cL_owner 2 = .ok (.aload_n 0, 1) := by decide +kernel
theorem dL_owner_3 : decode cL_owner 3 = .ok (.iload_n 1, 1) := by decide +kernel
theorem dL_owner_4 : decode cL_owner 4 = .ok (.invokevirtual 55, 3) := by decide +kernel
theorem dL_owner_7 : decode cL_owner 7 = .ok (.i2l, 1) := by decide +kernel
theorem dL_owner_8 : decode cL_owner 8 = .ok (.lastore, 1) := by decide +kernel
theorem dL_owner_9 : decode cL_owner 9 = .ok (.goto 6, 3) := by decide +kernel
theorem dL_owner_12 : decode cL_owner 12 = .ok (.astore_n 3, 1) := by decide +kernel
theorem dL_owner_13 : decode cL_owner 13 = .ok (.iconst 1, 1) := by decide +kernel
theorem dL_owner_14 : decode cL_owner 14 = .ok (.ireturn, 1) := by decide +kernel
theorem dL_owner_15 : decode cL_owner 15 = .ok (.iconst 0, 1) := by decide +kernel
theorem dL_owner_16 : decode cL_owner 16 = .ok (.ireturn, 1) := by decide +kernel
theorem dL_openSides_0 : decode cL_openSides 0 = .ok (.aload_n 2, 1) := by decide +kernel
theorem dL_openSides_1 : decode cL_openSides 1 = .ok (.iconst 0, 1) := by decide +kernel
theorem dL_openSides_2 : decode cL_openSides 2 = .ok (.aload_n 0, 1) := by decide +kernel
theorem dL_openSides_3 : decode cL_openSides 3 = .ok (.iload_n 1, 1) := by decide +kernel
theorem dL_openSides_4 : decode cL_openSides 4 = .ok (.invokevirtual 58, 3) := by decide +kernel
theorem dL_openSides_7 : decode cL_openSides 7 = .ok (.i2l, 1) := by decide +kernel
theorem dL_openSides_8 : decode cL_openSides 8 = .ok (.lastore, 1) := by decide +kernel
theorem dL_openSides_9 : decode cL_openSides 9 = .ok (.goto 6, 3) := by decide +kernel
theorem dL_openSides_12 : decode cL_openSides 12 = .ok (.astore_n 3, 1) := by decide +kernel
theorem dL_openSides_13 : decode cL_openSides 13 = .ok (.iconst 1, 1) := by decide +kernel
theorem dL_openSides_14 : decode cL_openSides 14 = .ok (.ireturn, 1) := by decide +kernel
theorem dL_openSides_15 : decode cL_openSides 15 = .ok (.iconst 0, 1) := by decide +kernel
theorem dL_openSides_16 : decode cL_openSides 16 = .ok (.ireturn, 1) := by decide +kernel
theorem dL_stringOf_0 : decode cL_stringOf 0 = .ok (.aload_n 2, 1) := by decide +kernel
theorem dL_stringOf_1 : decode cL_stringOf 1 = .ok (.iconst 0, 1) := by decide +kernel
theorem dL_stringOf_2 : decode cL_stringOf 2 = .ok (.aload_n 0, 1) := by decide +kernel
theorem dL_stringOf_3 : decode cL_stringOf 3 = .ok (.iload_n 1, 1) := by decide +kernel
theorem dL_stringOf_4 : decode cL_stringOf 4 = .ok (.invokevirtual 61, 3) := by decide +kernel
theorem dL_stringOf_7 : decode cL_stringOf 7 = .ok (.i2l, 1) := by decide +kernel
theorem dL_stringOf_8 : decode cL_stringOf 8 = .ok (.lastore, 1) := by decide +kernel
theorem dL_stringOf_9 : decode cL_stringOf 9 = .ok (.goto 6, 3) := by decide +kernel
theorem dL_stringOf_12 : decode cL_stringOf 12 = .ok (.astore_n 3, 1) := by decide +kernel
theorem dL_stringOf_13 : decode cL_stringOf 13 = .ok (.iconst 1, 1) := by decide +kernel
theorem dL_stringOf_14 : decode cL_stringOf 14 = .ok (.ireturn, 1) := by decide +kernel
theorem dL_stringOf_15 : decode cL_stringOf 15 = .ok (.iconst 0, 1) := by decide +kernel
theorem dL_stringOf_16 : decode cL_stringOf 16 = .ok (.ireturn, 1) := by decide +kernel
theorem dL_string_0 : decode cL_string 0 = .ok (.aload_n 3, 1) := by decide +kernel
theorem dL_string_1 : decode cL_string 1 = .ok (.iconst 0, 1) := by decide +kernel
theorem dL_string_2 : decode cL_string 2 = .ok (.aload_n 0, 1) := by decide +kernel
theorem dL_string_3 : decode cL_string 3 = .ok (.iload_n 1, 1) := by decide +kernel
theorem dL_string_4 : decode cL_string 4 = .ok (.iload_n 2, 1) := by decide +kernel
theorem dL_string_5 : decode cL_string 5 = .ok (.invokevirtual 64, 3) := by decide +kernel
theorem dL_string_8 : decode cL_string 8 = .ok (.i2l, 1) := by decide +kernel
theorem dL_string_9 : decode cL_string 9 = .ok (.lastore, 1) := by decide +kernel
theorem dL_string_10 : decode cL_string 10 = .ok (.goto 11, 3) := by decide +kernel
theorem dL_string_13 : decode cL_string 13 = .ok (.astore 4, 2) := by decide +kernel
theorem dL_string_15 : decode cL_string 15 = .ok (.iconst 1, 1) := by decide +kernel
theorem dL_string_16 : decode cL_string 16 = .ok (.ireturn, 1) := by decide +kernel
theorem dL_string_17 : decode cL_string 17 = .ok (.astore 4, 2) := by decide +kernel
theorem dL_string_19 : decode cL_string 19 = .ok (.iconst 2, 1) := by decide +kernel
theorem dL_string_20 : decode cL_string 20 = .ok (.ireturn, 1) := by decide +kernel
theorem dL_string_21 : decode cL_string 21 = .ok (.iconst 0, 1) := by decide +kernel
theorem dL_string_22 : decode cL_string 22 = .ok (.ireturn, 1) := by decide +kernel
theorem dL_control_0 : decode cL_control 0 = .ok (.aload_n 2, 1) := by decide +kernel
theorem dL_control_1 : decode cL_control 1 = .ok (.iconst 0, 1) := by decide +kernel
theorem dL_control_2 : decode cL_control 2 = .ok (.aload_n 0, 1) := by decide +kernel
theorem dL_control_3 : decode cL_control 3 = .ok (.iload_n 1, 1) := by decide +kernel
theorem dL_control_4 : decode cL_control 4 = .ok (.invokevirtual 67, 3) := by decide +kernel
theorem dL_control_7 : decode cL_control 7 = .ok (.i2l, 1) := by decide +kernel
theorem dL_control_8 : decode cL_control 8 = .ok (.lastore, 1) := by decide +kernel
theorem dL_control_9 : decode cL_control 9 = .ok (.goto 6, 3) := by decide +kernel
theorem dL_control_12 : decode cL_control 12 = .ok (.astore_n 3, 1) := by decide +kernel
theorem dL_control_13 : decode cL_control 13 = .ok (.iconst 1, 1) := by decide +kernel
theorem dL_control_14 : decode cL_control 14 = .ok (.ireturn, 1) := by decide +kernel
theorem dL_control_15 : decode cL_control 15 = .ok (.iconst 0, 1) := by decide +kernel
theorem dL_control_16 : decode cL_control 16 = .ok (.ireturn, 1) := by decide +kernel
theorem dL_prediction_0 : decode cL_prediction 0 = .ok (.aload_n 1, 1) := by decide +kernel
theorem dL_prediction_1 : decode cL_prediction 1 = .ok (.iconst 0, 1) := by decide +kernel
theorem dL_prediction_2 : decode cL_prediction 2 = .ok (.aload_n 0, 1) := by decide +kernel
theorem dL_prediction_3 : decode cL_prediction 3 = .ok (.invokevirtual 70, 3) := by decide +kernel
theorem dL_prediction_6 : decode cL_prediction 6 = .ok (.i2l, 1) := by decide +kernel
theorem dL_prediction_7 : decode cL_prediction 7 = .ok (.lastore, 1) := by decide +kernel
theorem dL_prediction_8 : decode cL_prediction 8 = .ok (.goto 6, 3) := by decide +kernel
theorem dL_prediction_11 : decode cL_prediction 11 = .ok (.astore_n 2, 1) := by decide +kernel
theorem dL_prediction_12 : decode cL_prediction 12 = .ok (.iconst 1, 1) := by decide +kernel
theorem dL_prediction_13 : decode cL_prediction 13 = .ok (.ireturn, 1) := by decide +kernel
theorem dL_prediction_14 : decode cL_prediction 14 = .ok (.iconst 0, 1) := by decide +kernel
theorem dL_prediction_15 : decode cL_prediction 15 = .ok (.ireturn, 1) := by decide +kernel
theorem dL_outcome_0 : decode cL_outcome 0 = .ok (.aload_n 1, 1) := by decide +kernel
theorem dL_outcome_1 : decode cL_outcome 1 = .ok (.iconst 0, 1) := by decide +kernel
theorem dL_outcome_2 : decode cL_outcome 2 = .ok (.aload_n 0, 1) := by decide +kernel
theorem dL_outcome_3 : decode cL_outcome 3 = .ok (.invokevirtual 73, 3) := by decide +kernel
theorem dL_outcome_6 : decode cL_outcome 6 = .ok (.i2l, 1) := by decide +kernel
theorem dL_outcome_7 : decode cL_outcome 7 = .ok (.lastore, 1) := by decide +kernel
theorem dL_outcome_8 : decode cL_outcome 8 = .ok (.goto 6, 3) := by decide +kernel
theorem dL_outcome_11 : decode cL_outcome 11 = .ok (.astore_n 2, 1) := by decide +kernel
theorem dL_outcome_12 : decode cL_outcome 12 = .ok (.iconst 1, 1) := by decide +kernel
theorem dL_outcome_13 : decode cL_outcome 13 = .ok (.ireturn, 1) := by decide +kernel
theorem dL_outcome_14 : decode cL_outcome 14 = .ok (.iconst 0, 1) := by decide +kernel
theorem dL_outcome_15 : decode cL_outcome 15 = .ok (.ireturn, 1) := by decide +kernel
theorem dL_worth_0 : decode cL_worth 0 = .ok (.aload_n 2, 1) := by decide +kernel
theorem dL_worth_1 : decode cL_worth 1 = .ok (.iconst 0, 1) := by decide +kernel
theorem dL_worth_2 : decode cL_worth 2 = .ok (.aload_n 0, 1) := by decide +kernel
theorem dL_worth_3 : decode cL_worth 3 = .ok (.iload_n 1, 1) := by decide +kernel
theorem dL_worth_4 : decode cL_worth 4 = .ok (.invokevirtual 76, 3) := by decide +kernel
theorem dL_worth_7 : decode cL_worth 7 = .ok (.i2l, 1) := by decide +kernel
theorem dL_worth_8 : decode cL_worth 8 = .ok (.lastore, 1) := by decide +kernel
theorem dL_worth_9 : decode cL_worth 9 = .ok (.goto 9, 3) := by decide +kernel
theorem dL_worth_12 : decode cL_worth 12 = .ok (.astore_n 3, 1) := by decide +kernel
theorem dL_worth_13 : decode cL_worth 13 = .ok (.iconst 1, 1) := by decide +kernel
theorem dL_worth_14 : decode cL_worth 14 = .ok (.ireturn, 1) := by decide +kernel
theorem dL_worth_15 : decode cL_worth 15 = .ok (.astore_n 3, 1) := by decide +kernel
theorem dL_worth_16 : decode cL_worth 16 = .ok (.iconst 2, 1) := by decide +kernel
theorem dL_worth_17 : decode cL_worth 17 = .ok (.ireturn, 1) := by decide +kernel
theorem dL_worth_18 : decode cL_worth 18 = .ok (.iconst 0, 1) := by decide +kernel
theorem dL_worth_19 : decode cL_worth 19 = .ok (.ireturn, 1) := by decide +kernel
theorem dL_advice_0 : decode cL_advice 0 = .ok (.aload_n 2, 1) := by decide +kernel
theorem dL_advice_1 : decode cL_advice 1 = .ok (.iconst 0, 1) := by decide +kernel
theorem dL_advice_2 : decode cL_advice 2 = .ok (.aload_n 0, 1) := by decide +kernel
theorem dL_advice_3 : decode cL_advice 3 = .ok (.iload_n 1, 1) := by decide +kernel
theorem dL_advice_4 : decode cL_advice 4 = .ok (.invokevirtual 79, 3) := by decide +kernel
theorem dL_advice_7 : decode cL_advice 7 = .ok (.i2l, 1) := by decide +kernel
theorem dL_advice_8 : decode cL_advice 8 = .ok (.lastore, 1) := by decide +kernel
theorem dL_advice_9 : decode cL_advice 9 = .ok (.goto 6, 3) := by decide +kernel
theorem dL_advice_12 : decode cL_advice 12 = .ok (.astore_n 3, 1) := by decide +kernel
theorem dL_advice_13 : decode cL_advice 13 = .ok (.iconst 1, 1) := by decide +kernel
theorem dL_advice_14 : decode cL_advice 14 = .ok (.ireturn, 1) := by decide +kernel
theorem dL_advice_15 : decode cL_advice 15 = .ok (.iconst 0, 1) := by decide +kernel
theorem dL_advice_16 : decode cL_advice 16 = .ok (.ireturn, 1) := by decide +kernel
theorem dL_playout_0 : decode cL_playout 0 = .ok (.aload 4, 2) := by decide +kernel
theorem dL_playout_2 : decode cL_playout 2 = .ok (.iconst 0, 1) := by decide +kernel
theorem dL_playout_3 : decode cL_playout 3 = .ok (.aload_n 0, 1) := by decide +kernel
theorem dL_playout_4 : decode cL_playout 4 = .ok (.iload_n 1, 1) := by decide +kernel
theorem dL_playout_5 : decode cL_playout 5 = .ok (.iload_n 2, 1) := by decide +kernel
theorem dL_playout_6 : decode cL_playout 6 = .ok (.iload_n 3, 1) := by decide +kernel
theorem dL_playout_7 : decode cL_playout 7 = .ok (.invokevirtual 82, 3) := by decide +kernel
theorem dL_playout_10 : decode cL_playout 10 = .ok (.i2l, 1) := by decide +kernel
theorem dL_playout_11 : decode cL_playout 11 = .ok (.lastore, 1) := by decide +kernel
theorem dL_playout_12 : decode cL_playout 12 = .ok (.goto 7, 3) := by decide +kernel
theorem dL_playout_15 : decode cL_playout 15 = .ok (.astore 5, 2) := by decide +kernel
theorem dL_playout_17 : decode cL_playout 17 = .ok (.iconst 1, 1) := by decide +kernel
theorem dL_playout_18 : decode cL_playout 18 = .ok (.ireturn, 1) := by decide +kernel
theorem dL_playout_19 : decode cL_playout 19 = .ok (.iconst 0, 1) := by decide +kernel
theorem dL_playout_20 : decode cL_playout 20 = .ok (.ireturn, 1) := by decide +kernel
theorem dL_meanDifference_0 : decode cL_meanDifference 0 = .ok (.aload_n 3, 1) := by decide +kernel
theorem dL_meanDifference_1 : decode cL_meanDifference 1 = .ok (.iconst 0, 1) := by decide +kernel
theorem dL_meanDifference_2 : decode cL_meanDifference 2 = .ok (.aload_n 0, 1) := by decide +kernel
theorem dL_meanDifference_3 : decode cL_meanDifference 3 = .ok (.iload_n 1, 1) := by decide +kernel
theorem dL_meanDifference_4 : decode cL_meanDifference 4 = .ok (.iload_n 2, 1) := by decide +kernel
theorem dL_meanDifference_5 : decode cL_meanDifference 5 = .ok (.invokevirtual 86, 3) := by decide +kernel
theorem dL_meanDifference_8 : decode cL_meanDifference 8 = .ok (.dastore, 1) := by decide +kernel
theorem dL_meanDifference_9 : decode cL_meanDifference 9 = .ok (.goto 7, 3) := by decide +kernel
theorem dL_meanDifference_12 : decode cL_meanDifference 12 = .ok (.astore 4, 2) := by decide +kernel
theorem dL_meanDifference_14 : decode cL_meanDifference 14 = .ok (.iconst 1, 1) := by decide +kernel
theorem dL_meanDifference_15 : decode cL_meanDifference 15 = .ok (.ireturn, 1) := by decide +kernel
theorem dL_meanDifference_16 : decode cL_meanDifference 16 = .ok (.iconst 0, 1) := by decide +kernel
theorem dL_meanDifference_17 : decode cL_meanDifference 17 = .ok (.ireturn, 1) := by decide +kernel
set_option maxRecDepth 20000 in
theorem ggL_begin_X8_begin : GoodIn wsL_begin wsX8_begin := goodIn_ca (goodIn_r _ [6, 7, 8, 9, 10, 11, 12, 13, 5, 14, 15, 16, 17, 18, 19, 20, 21, 22, 23, 24, 25, 26, 27, 28, 29, 30, 31, 32, 33, 34, 35, 36, 37, 38, 39, 40, 41, 42, 43, 44, 45, 46, 47, 48, 49, 50, 51, 52, 53, 54, 55, 56, 57, 58, 59, 60, 61, 62, 63, 64, 65, 66, 67, 68, 69, 70, 71, 72, 73, 74, 75, 76, 77, 78, 79, 80, 81, 82, 83, 84, 85, 86, 87, 88, 89, 90, 91, 92, 93, 94, 95, 96, 97, 98, 99, 100, 101, 102, 103, 104, 105, 106, 107, 108, 109, 110, 111, 112, 113, 114, 115, 116, 117, 118, 119, 120, 121, 122, 123, 124, 125, 126, 127, 128, 129, 130, 131, 132, 133, 134, 135, 136, 137, 138, 139, 140, 141, 142, 143, 144, 145, 146, 147, 148, 149] (by decide +kernel) (by decide +kernel)) (goodIn_sub (fun _ h => List.mem_cons_of_mem _ (List.mem_append_right _ h)) (by decide +kernel))
set_option maxRecDepth 20000 in
theorem gL_begin_X8_begin : GoodIn wsL_begin (wsV RL 7 RX8 yX8_begin wsX8_begin) := goodIn_app (goodIn_of _ (by decide +kernel)) ggL_begin_X8_begin
set_option maxRecDepth 20000 in
theorem ggL_draw_X8_draw : GoodIn wsL_draw wsX8_draw := goodIn_ca (goodIn_ca (goodIn_r _ [7, 8, 9, 10, 11, 12, 13, 14, 15, 16, 17, 18, 19, 20, 21, 22, 6, 23, 24, 25, 26, 27, 28, 29, 30, 31, 32, 33, 34, 35, 36, 37, 38, 39, 40, 41, 42, 43, 44, 45, 46, 47, 48, 49, 50, 51, 52, 53, 54, 55, 56, 57, 58, 59, 60, 61, 62, 63, 64, 65, 66, 67, 68, 69, 70, 71, 72, 73, 74, 75, 76, 77, 78, 79, 80, 81, 82, 83, 84, 85, 86, 87, 88, 89, 90, 91, 92, 93, 94, 95, 96, 97, 98, 99, 100, 101] (by decide +kernel) (by decide +kernel)) (goodIn_sub (fun _ h => List.mem_cons_of_mem _ (List.mem_append_left _ (List.mem_append_right _ h))) (by decide +kernel))) (goodIn_sub (fun _ h => List.mem_cons_of_mem _ (List.mem_append_right _ h)) (by decide +kernel))
set_option maxRecDepth 20000 in
theorem gL_draw_X8_draw : GoodIn wsL_draw (wsV RL 15 RX8 yX8_draw wsX8_draw) := goodIn_app (goodIn_of _ (by decide +kernel)) ggL_draw_X8_draw
set_option maxRecDepth 20000 in
theorem ggL_undo_X8_undo : GoodIn wsL_undo wsX8_undo := goodIn_ca (goodIn_r _ [6, 7, 8, 9, 10, 11, 12, 13, 14, 15, 16, 17, 18, 19, 20, 21, 22, 23, 24, 25, 26, 27, 28, 29, 30, 31, 32, 33, 34, 35, 36, 37, 38, 39, 40, 41, 42, 43, 44, 45, 46, 47, 48, 49, 50, 51, 52, 53, 54, 55, 56, 57, 58, 59, 60, 61, 62, 63, 64, 65, 66, 67, 68, 5, 69, 70, 71, 72, 73, 74, 75, 76, 77, 78, 79, 80, 81, 82, 83, 84, 85, 86, 87, 88, 89, 90] (by decide +kernel) (by decide +kernel)) (goodIn_sub (fun _ h => List.mem_cons_of_mem _ (List.mem_append_right _ h)) (by decide +kernel))
set_option maxRecDepth 20000 in
theorem gL_undo_X8_undo : GoodIn wsL_undo (wsV RL 23 RX8 yX8_undo wsX8_undo) := goodIn_app (goodIn_of _ (by decide +kernel)) ggL_undo_X8_undo
set_option maxRecDepth 20000 in
theorem ggL_follow_X8_follow : GoodIn wsL_follow wsX8_follow := goodIn_ca (goodIn_r _ [6, 7, 8, 9, 10, 11, 12, 13, 5, 14, 15, 16, 17, 18, 19, 20, 21, 22, 23, 24, 25, 26, 27, 28, 29, 30, 31, 32, 33, 34, 35, 36, 37, 38, 39, 40, 41, 42, 43, 44, 45, 46, 47, 48, 49, 50, 51, 52, 53, 54, 55, 56, 57, 58, 59, 60, 61, 62, 63, 64, 65, 66, 67, 68, 69, 70, 71, 72, 73, 74, 75, 76, 77, 78, 79, 80, 81, 82, 83, 84, 85, 86, 87, 88, 89, 90, 91, 92, 93, 94, 95, 96, 97, 98, 99, 100, 101, 102, 103, 104, 105, 106, 107, 108, 109, 110, 111, 112, 113, 114, 115, 116, 117, 118, 119, 120, 121, 122, 123, 124, 125, 126, 127, 128, 129, 130, 131, 132, 133, 134, 135, 136, 137, 138, 139, 140, 141, 142, 143, 144, 145, 146, 147, 148, 149, 150, 151, 152, 153, 154, 155, 156, 157, 158, 159, 160, 161, 162, 163, 164, 165, 166, 167, 168, 169, 170, 171, 172, 173, 174, 175, 176, 177, 178, 179, 180, 181, 182, 183, 184, 185, 186, 187, 188, 189, 190, 191, 192, 193, 194, 195, 196, 197, 198, 199, 200, 201, 202, 203, 204, 205, 206, 207, 208, 209, 210, 211, 212, 213, 214] (by decide +kernel) (by decide +kernel)) (goodIn_sub (fun _ h => List.mem_cons_of_mem _ (List.mem_append_right _ h)) (by decide +kernel))
set_option maxRecDepth 20000 in
theorem gL_follow_X8_follow : GoodIn wsL_follow (wsV RL 27 RX8 yX8_follow wsX8_follow) := goodIn_app (goodIn_of _ (by decide +kernel)) ggL_follow_X8_follow
set_option maxRecDepth 20000 in
theorem ggL_append_X8_append : GoodIn wsL_append wsX8_append := goodIn_ca (goodIn_ca (goodIn_r _ [7, 8, 9, 10, 11, 12, 13, 14, 15, 16, 17, 18, 19, 20, 21, 22, 23, 24, 25, 26, 27, 28, 29, 30, 31, 32, 33, 34, 35] (by decide +kernel) (by decide +kernel)) (goodIn_sub (fun _ h => List.mem_cons_of_mem _ (List.mem_append_left _ (List.mem_append_right _ h))) (by decide +kernel))) (goodIn_sub (fun _ h => List.mem_cons_of_mem _ (List.mem_append_right _ h)) (by decide +kernel))
set_option maxRecDepth 20000 in
theorem gL_append_X8_append : GoodIn wsL_append (wsV RL 30 RX8 yX8_append wsX8_append) := goodIn_app (goodIn_of _ (by decide +kernel)) ggL_append_X8_append
set_option maxRecDepth 20000 in
theorem ggL_load_X8_load : GoodIn wsL_load wsX8_load := goodIn_ca (goodIn_ca (goodIn_r _ [7, 8, 9, 10, 11, 12, 13, 14, 15, 16, 17, 18, 19, 20, 21, 22, 23, 24, 25, 26, 27, 28, 29, 30, 31, 32, 33, 34, 35, 36, 37, 38, 39, 40, 41, 42, 43, 44, 45, 46, 47, 48, 49, 50, 51, 52, 53, 54, 55, 56, 57, 58, 59, 60, 61, 62, 63, 6, 64, 65, 66, 67, 68, 69, 70, 71, 72, 73, 74, 75, 76, 77, 78, 79, 80, 81, 82, 83, 84, 85, 86, 87, 88, 89, 90, 91, 92, 93, 94, 95, 96, 97, 98, 99, 100, 101, 102, 103, 104, 105, 106, 107, 108, 109, 110, 111, 112, 113, 114, 115, 116, 117, 118, 119, 120, 121, 122, 123, 124, 125, 126, 127, 128, 129, 130, 131, 132, 133, 134, 135, 136, 137, 138, 139] (by decide +kernel) (by decide +kernel)) (goodIn_sub (fun _ h => List.mem_cons_of_mem _ (List.mem_append_left _ (List.mem_append_right _ h))) (by decide +kernel))) (goodIn_sub (fun _ h => List.mem_cons_of_mem _ (List.mem_append_right _ h)) (by decide +kernel))
set_option maxRecDepth 20000 in
theorem gL_load_X8_load : GoodIn wsL_load (wsV RL 33 RX8 yX8_load wsX8_load) := goodIn_app (goodIn_of _ (by decide +kernel)) ggL_load_X8_load
set_option maxRecDepth 20000 in
theorem ggL_count_X8_count : GoodIn wsL_count wsX8_count := goodIn_ca (goodIn_r _ [6, 7, 8, 9, 10, 11, 12, 13, 14, 15, 16, 17, 18, 19, 20, 21, 22, 23, 24, 25, 26, 27, 28, 29, 30, 31, 32, 33, 34, 35, 36, 37, 38, 39, 40, 41, 42, 43, 44, 45, 46, 47, 48, 49, 50, 51, 52, 53, 54, 55, 56, 57, 58, 5, 59, 60, 61, 62, 63, 64, 65, 66, 67, 68, 69, 70, 71, 72, 73, 74, 75, 76, 77, 78, 79, 80, 81, 82, 83, 84, 85, 86, 87, 88, 89, 90, 91, 92, 93, 94, 95, 96, 97, 98, 99, 100, 101, 102, 103, 104, 105, 106, 107, 108, 109, 110, 111, 112, 113, 114, 115, 116, 117, 118, 119, 120, 121, 122, 123, 124, 125, 126, 127, 128, 129, 130, 131, 132, 133, 134, 135, 136, 137, 138, 139, 140, 141, 142, 143, 144, 145, 146, 147, 148, 149, 150, 151, 152, 153, 154, 155, 156, 157, 158, 159, 160, 161, 162, 163] (by decide +kernel) (by decide +kernel)) (goodIn_sub (fun _ h => List.mem_cons_of_mem _ (List.mem_append_right _ h)) (by decide +kernel))
set_option maxRecDepth 20000 in
theorem gL_count_X8_count : GoodIn wsL_count (wsV RL 36 RX8 yX8_count wsX8_count) := goodIn_app (goodIn_of _ (by decide +kernel)) ggL_count_X8_count
set_option maxRecDepth 20000 in
theorem ggL_score_X8_score : GoodIn wsL_score wsX8_score := goodIn_ca (goodIn_r _ [6, 7, 8, 9, 10, 11, 12, 13, 14, 15, 16, 17, 18, 19, 20, 21, 22, 23, 24, 25, 26, 27, 28, 29, 30, 31, 32, 33, 34, 35, 36, 37, 38, 39, 40, 41, 42, 43, 44, 45, 46] (by decide +kernel) (by decide +kernel)) (goodIn_sub (fun _ h => List.mem_cons_of_mem _ (List.mem_append_right _ h)) (by decide +kernel))
set_option maxRecDepth 20000 in
theorem gL_score_X8_score : GoodIn wsL_score (wsV RL 39 RX8 yX8_score wsX8_score) := goodIn_app (goodIn_of _ (by decide +kernel)) ggL_score_X8_score
set_option maxRecDepth 20000 in
theorem ggL_line_X8_line : GoodIn wsL_line wsX8_line := goodIn_ca (goodIn_r _ [6, 7, 8, 9, 10, 11, 12, 13, 14, 15, 16, 17, 18, 19, 20, 21, 22, 23, 24, 25, 26, 27, 28, 29, 30, 31] (by decide +kernel) (by decide +kernel)) (goodIn_sub (fun _ h => List.mem_cons_of_mem _ (List.mem_append_right _ h)) (by decide +kernel))
set_option maxRecDepth 20000 in
theorem gL_line_X8_line : GoodIn wsL_line (wsV RL 42 RX8 yX8_line wsX8_line) := goodIn_app (goodIn_of _ (by decide +kernel)) ggL_line_X8_line
set_option maxRecDepth 20000 in
theorem ggL_kind_X8_kind : GoodIn wsL_kind wsX8_kind := goodIn_ca (goodIn_r _ [6, 7, 8, 9, 10, 11, 12, 13, 14, 15, 16, 17, 18, 19, 20, 5, 21, 22, 23, 24, 25, 26, 27, 28, 29, 30, 31, 32, 33, 34, 35, 36, 37, 38, 39, 40, 41, 42, 43, 44, 45, 46, 47, 48, 49, 50, 51, 52, 53, 54, 55, 56, 57, 58, 59, 60, 61, 62, 63, 64, 65, 66, 67, 68, 69, 70, 71, 72, 73, 74, 75, 76, 77, 78, 79, 80, 81, 82] (by decide +kernel) (by decide +kernel)) (goodIn_sub (fun _ h => List.mem_cons_of_mem _ (List.mem_append_right _ h)) (by decide +kernel))
set_option maxRecDepth 20000 in
theorem gL_kind_X8_kind : GoodIn wsL_kind (wsV RL 46 RX8 yX8_kind wsX8_kind) := goodIn_app (goodIn_of _ (by decide +kernel)) ggL_kind_X8_kind
set_option maxRecDepth 20000 in
theorem ggL_price_X8_price : GoodIn wsL_price wsX8_price := goodIn_ca (goodIn_ca (goodIn_r _ [7, 8, 9, 10, 11, 12, 13, 14, 15, 16, 17, 18, 19, 20, 21, 22, 23, 6, 24, 25, 26, 27, 28, 29, 30, 31, 32, 33, 34, 35, 36, 37, 38, 39, 40, 41, 42, 43, 44, 45, 46, 47, 48, 49, 50, 51, 52, 53, 54, 55, 56, 57, 58, 59, 60, 61, 62, 63, 64, 65, 66, 67, 68, 69, 70, 71, 72, 73, 74, 75, 76, 77] (by decide +kernel) (by decide +kernel)) (goodIn_sub (fun _ h => List.mem_cons_of_mem _ (List.mem_append_left _ (List.mem_append_right _ h))) (by decide +kernel))) (goodIn_sub (fun _ h => List.mem_cons_of_mem _ (List.mem_append_right _ h)) (by decide +kernel))
set_option maxRecDepth 20000 in
theorem gL_price_X8_price : GoodIn wsL_price (wsV RL 49 RX8 yX8_price wsX8_price) := goodIn_app (goodIn_of _ (by decide +kernel)) ggL_price_X8_price
set_option maxRecDepth 20000 in
theorem ggL_drawn_X8_drawn : GoodIn wsL_drawn wsX8_drawn := goodIn_ca (goodIn_r _ [6, 7, 8, 9, 10, 11, 12, 13, 14, 15, 16, 17, 18, 19, 20, 21, 22, 23, 24, 25, 26, 27, 28, 29, 30, 31, 32, 33, 34] (by decide +kernel) (by decide +kernel)) (goodIn_sub (fun _ h => List.mem_cons_of_mem _ (List.mem_append_right _ h)) (by decide +kernel))
set_option maxRecDepth 20000 in
theorem gL_drawn_X8_drawn : GoodIn wsL_drawn (wsV RL 52 RX8 yX8_drawn wsX8_drawn) := goodIn_app (goodIn_of _ (by decide +kernel)) ggL_drawn_X8_drawn
set_option maxRecDepth 20000 in
theorem ggL_owner_X8_owner : GoodIn wsL_owner wsX8_owner := goodIn_ca (goodIn_r _ [6, 7, 8, 9, 10, 11, 12, 13, 14, 15, 16, 17, 18, 19, 20, 21, 22, 23, 24, 25, 26, 27, 28, 29, 30, 31, 32, 33, 34, 35, 36, 37, 38, 39, 40, 41, 42, 43, 44, 45, 46, 47] (by decide +kernel) (by decide +kernel)) (goodIn_sub (fun _ h => List.mem_cons_of_mem _ (List.mem_append_right _ h)) (by decide +kernel))
set_option maxRecDepth 20000 in
theorem gL_owner_X8_owner : GoodIn wsL_owner (wsV RL 55 RX8 yX8_owner wsX8_owner) := goodIn_app (goodIn_of _ (by decide +kernel)) ggL_owner_X8_owner
set_option maxRecDepth 20000 in
theorem ggL_openSides_X8_openSides : GoodIn wsL_openSides wsX8_openSides := goodIn_ca (goodIn_r _ [6, 7, 8, 9, 10, 11, 12, 13, 14, 15, 16, 17, 18, 19, 20, 21, 22, 23, 24, 25, 26, 27, 28, 29, 30, 31, 32, 33, 34, 35, 36, 37, 38, 39, 40, 41, 42, 43, 44, 45, 46, 47, 48, 49, 50, 51, 52, 53, 54, 55] (by decide +kernel) (by decide +kernel)) (goodIn_sub (fun _ h => List.mem_cons_of_mem _ (List.mem_append_right _ h)) (by decide +kernel))
set_option maxRecDepth 20000 in
theorem gL_openSides_X8_openSides : GoodIn wsL_openSides (wsV RL 58 RX8 yX8_openSides wsX8_openSides) := goodIn_app (goodIn_of _ (by decide +kernel)) ggL_openSides_X8_openSides
set_option maxRecDepth 20000 in
theorem ggL_stringOf_X8_stringOf : GoodIn wsL_stringOf wsX8_stringOf := goodIn_ca (goodIn_r _ [6, 7, 8, 9, 10, 11, 12, 13, 14, 15, 16, 17, 18, 19, 20, 21, 22, 23, 24, 25, 26, 27, 28, 29, 30, 31, 32, 33, 34, 35, 36, 37, 38, 39, 40, 41, 42, 43, 44, 45, 46, 47, 48, 49, 50, 51, 52, 53, 54, 55, 56, 57, 58, 59, 60, 61, 62, 63, 64, 65, 66, 67, 68, 69, 70, 71, 72, 73, 74, 75, 76, 77, 78, 79, 80, 81, 82, 83, 84, 85, 86, 87, 88, 89, 90, 91, 92, 93, 94, 95, 96, 97, 98, 99, 100, 101, 102, 103, 104, 105, 106, 107, 108, 109, 110, 111, 112, 113, 114, 115, 116, 117, 118, 119, 120, 121, 122, 123, 124, 125, 126] (by decide +kernel) (by decide +kernel)) (goodIn_sub (fun _ h => List.mem_cons_of_mem _ (List.mem_append_right _ h)) (by decide +kernel))
set_option maxRecDepth 20000 in
theorem gL_stringOf_X8_stringOf : GoodIn wsL_stringOf (wsV RL 61 RX8 yX8_stringOf wsX8_stringOf) := goodIn_app (goodIn_of _ (by decide +kernel)) ggL_stringOf_X8_stringOf
set_option maxRecDepth 20000 in
theorem ggL_string_X8_string : GoodIn wsL_string wsX8_string := goodIn_ca (goodIn_ca (goodIn_r _ [7, 8, 9, 10, 11, 12, 13, 14, 15, 6, 16, 17, 18, 19, 20, 21, 22, 23, 24, 25, 26, 27, 28, 29, 30, 31, 32, 33, 34, 35, 36, 37, 38, 39, 40, 41, 42, 43, 44, 45, 46, 47, 48, 49, 50, 51, 52, 53, 54, 55, 56, 57, 58, 59, 60, 61, 62, 63, 64, 65, 66, 67, 68, 69, 70, 71, 72, 73, 74, 75, 76, 77, 78, 79, 80, 81, 82, 83, 84, 85, 86, 87, 88, 89, 90, 91, 92, 93, 94, 95, 96, 97, 98, 99, 100, 101, 102, 103, 104, 105, 106, 107, 108, 109, 110, 111, 112, 113, 114, 115, 116, 117, 118, 119, 120, 121, 122, 123, 124, 125, 126, 127, 128] (by decide +kernel) (by decide +kernel)) (goodIn_sub (fun _ h => List.mem_cons_of_mem _ (List.mem_append_left _ (List.mem_append_right _ h))) (by decide +kernel))) (goodIn_sub (fun _ h => List.mem_cons_of_mem _ (List.mem_append_right _ h)) (by decide +kernel))
set_option maxRecDepth 20000 in
theorem gL_string_X8_string : GoodIn wsL_string (wsV RL 64 RX8 yX8_string wsX8_string) := goodIn_app (goodIn_of _ (by decide +kernel)) ggL_string_X8_string
set_option maxRecDepth 20000 in
theorem ggL_control_X8_control : GoodIn wsL_control wsX8_control := goodIn_ca (goodIn_r _ [6, 7, 8, 9, 10, 11, 12, 13, 14, 15, 16, 17, 18, 19, 20, 21, 22, 23, 24, 25, 26, 27, 28, 29, 30, 31, 32, 33, 34, 35, 36, 37, 38, 39, 40, 41, 42, 43, 44, 45, 46, 47, 48, 49, 50, 51, 52, 53, 54, 55, 56, 57, 58, 59, 60, 61, 62, 63, 64, 65, 66, 67, 68, 69, 70, 71, 72, 73, 74, 75, 76, 77, 78, 79, 80, 81, 82, 83, 84, 85, 86, 87, 88, 89, 90, 91, 92, 93, 94, 95, 96, 97, 98, 99, 100, 101, 102, 103, 104, 105, 106, 107, 108, 109, 110, 111, 112, 113, 114, 115, 116, 117, 118, 119, 120, 121, 122, 123, 124, 125, 126, 127, 128, 129, 130, 131, 132, 133, 134, 135, 136, 137, 138, 139, 140, 141, 142] (by decide +kernel) (by decide +kernel)) (goodIn_sub (fun _ h => List.mem_cons_of_mem _ (List.mem_append_right _ h)) (by decide +kernel))
set_option maxRecDepth 20000 in
theorem gL_control_X8_control : GoodIn wsL_control (wsV RL 67 RX8 yX8_control wsX8_control) := goodIn_app (goodIn_of _ (by decide +kernel)) ggL_control_X8_control
set_option maxRecDepth 20000 in
theorem ggL_prediction_X8_prediction : GoodIn wsL_prediction wsX8_prediction := goodIn_ca (goodIn_r _ [6, 7, 8, 9, 10, 11, 12, 5, 13, 14, 15, 16, 17, 18, 19, 20, 21, 22, 23, 24, 25, 26, 27, 28, 29, 30, 31, 32, 33, 34, 35, 36, 37, 38, 39, 40, 41, 42, 43, 44, 45, 46, 47, 48, 49, 50, 51, 52, 53, 54, 55, 56, 57, 58, 59, 60, 61, 62, 63, 64, 65, 66, 67, 68, 69, 70, 71, 72, 73, 74, 75, 76, 77, 78, 79, 80, 81, 82, 83, 84, 85, 86, 87, 88, 89, 90, 91, 92, 93, 94, 95, 96, 97, 98, 99, 100, 101, 102, 103, 104, 105, 106, 107, 108, 109, 110, 111, 112, 113, 114, 115, 116, 117, 118, 119, 120, 121, 122, 123, 124, 125, 126, 127, 128, 129, 130, 131, 132, 133, 134, 135, 136, 137, 138, 139, 140, 141, 142, 143, 144, 145, 146] (by decide +kernel) (by decide +kernel)) (goodIn_sub (fun _ h => List.mem_cons_of_mem _ (List.mem_append_right _ h)) (by decide +kernel))
set_option maxRecDepth 20000 in
theorem gL_prediction_X8_prediction : GoodIn wsL_prediction (wsV RL 70 RX8 yX8_prediction wsX8_prediction) := goodIn_app (goodIn_of _ (by decide +kernel)) ggL_prediction_X8_prediction
set_option maxRecDepth 20000 in
theorem ggL_outcome_X8_outcome : GoodIn wsL_outcome wsX8_outcome := goodIn_ca (goodIn_r _ [6, 7, 8, 9, 10, 11, 12, 13, 14, 15, 5, 16, 17, 18, 19, 20, 21, 22, 23, 24, 25, 26, 27, 28, 29, 30, 31, 32, 33, 34, 35, 36, 37, 38, 39, 40, 41, 42, 43, 44, 45, 46, 47, 48, 49, 50, 51, 52, 53, 54, 55, 56, 57, 58, 59, 60, 61, 62, 63, 64, 65, 66, 67, 68, 69, 70, 71, 72, 73, 74, 75, 76, 77, 78, 79, 80, 81, 82, 83, 84, 85, 86, 87, 88, 89, 90, 91, 92, 93, 94, 95, 96, 97, 98, 99, 100, 101, 102, 103, 104, 105, 106, 107, 108, 109, 110, 111, 112, 113, 114, 115, 116, 117, 118, 119, 120, 121, 122, 123, 124, 125, 126, 127, 128, 129, 130, 131, 132, 133, 134, 135, 136, 137, 138, 139] (by decide +kernel) (by decide +kernel)) (goodIn_sub (fun _ h => List.mem_cons_of_mem _ (List.mem_append_right _ h)) (by decide +kernel))
set_option maxRecDepth 20000 in
theorem gL_outcome_X8_outcome : GoodIn wsL_outcome (wsV RL 73 RX8 yX8_outcome wsX8_outcome) := goodIn_app (goodIn_of _ (by decide +kernel)) ggL_outcome_X8_outcome
set_option maxRecDepth 20000 in
theorem ggL_worth_X8_worth : GoodIn wsL_worth wsX8_worth := goodIn_ca (goodIn_ca (goodIn_r _ [7, 8, 9, 10, 11, 12, 13, 14, 15, 16, 17, 18, 19, 20, 21, 22, 23, 24, 6, 25, 26, 27, 28, 29, 30, 31, 32, 33, 34, 35, 36, 37, 38, 39, 40, 41, 42, 43, 44, 45, 46, 47, 48, 49, 50, 51, 52, 53, 54, 55, 56, 57, 58, 59, 60, 61, 62, 63, 64, 65, 66, 67, 68, 69, 70, 71, 72, 73, 74, 75, 76, 77, 78, 79, 80, 81, 82, 83, 84, 85, 86, 87, 88, 89, 90, 91, 92, 93, 94, 95, 96, 97, 98, 99, 100, 101, 102, 103, 104, 105, 106, 107, 108, 109, 110, 111, 112, 113, 114, 115, 116, 117, 118, 119, 120, 121, 122, 123, 124, 125, 126, 127, 128, 129, 130, 131, 132, 133, 134, 135, 136, 137, 138, 139, 140, 141, 142, 143, 144, 145, 146, 147, 148, 149, 150, 151] (by decide +kernel) (by decide +kernel)) (goodIn_sub (fun _ h => List.mem_cons_of_mem _ (List.mem_append_left _ (List.mem_append_right _ h))) (by decide +kernel))) (goodIn_sub (fun _ h => List.mem_cons_of_mem _ (List.mem_append_right _ h)) (by decide +kernel))
set_option maxRecDepth 20000 in
theorem gL_worth_X8_worth : GoodIn wsL_worth (wsV RL 76 RX8 yX8_worth wsX8_worth) := goodIn_app (goodIn_of _ (by decide +kernel)) ggL_worth_X8_worth
set_option maxRecDepth 20000 in
theorem ggL_advice_X8_advice : GoodIn wsL_advice wsX8_advice := goodIn_ca (goodIn_r _ [6, 7, 8, 9, 10, 11, 12, 13, 5, 14, 15, 16, 17, 18, 19, 20, 21, 22, 23, 24, 25, 26, 27, 28, 29, 30, 31, 32, 33, 34, 35, 36, 37, 38, 39, 40, 41, 42, 43, 44, 45, 46, 47, 48, 49, 50, 51, 52, 53, 54, 55, 56, 57, 58, 59, 60, 61, 62, 63, 64, 65, 66, 67, 68, 69, 70, 71, 72, 73, 74, 75, 76, 77, 78, 79, 80, 81, 82, 83, 84, 85, 86, 87, 88, 89, 90, 91, 92, 93, 94, 95, 96, 97, 98, 99, 100, 101, 102, 103, 104, 105, 106, 107, 108, 109, 110, 111, 112, 113, 114, 115, 116, 117, 118, 119, 120, 121, 122, 123, 124, 125, 126, 127, 128, 129, 130, 131, 132, 133, 134, 135, 136, 137, 138, 139, 140, 141, 142, 143, 144, 145, 146, 147, 148, 149, 150, 151, 152, 153, 154, 155, 156, 157, 158, 159, 160, 161, 162, 163, 164, 165, 166, 167, 168, 169, 170, 171, 172, 173, 174, 175, 176, 177, 178, 179, 180, 181, 182, 183, 184, 185, 186, 187, 188] (by decide +kernel) (by decide +kernel)) (goodIn_sub (fun _ h => List.mem_cons_of_mem _ (List.mem_append_right _ h)) (by decide +kernel))
set_option maxRecDepth 20000 in
theorem gL_advice_X8_advice : GoodIn wsL_advice (wsV RL 79 RX8 yX8_advice wsX8_advice) := goodIn_app (goodIn_of _ (by decide +kernel)) ggL_advice_X8_advice
set_option maxRecDepth 20000 in
theorem ggL_playout_X8_playout : GoodIn wsL_playout wsX8_playout := goodIn_ca (goodIn_r _ [6, 7, 8, 9, 10, 11, 12, 13, 14, 15, 5, 16, 17, 18, 19, 20, 21, 22, 23, 24, 25, 26, 27, 28, 29, 30, 31, 32, 33, 34, 35, 36, 37, 38, 39, 40, 41, 42, 43, 44, 45, 46, 47, 48, 49, 50, 51, 52, 53, 54, 55, 56, 57, 58, 59, 60, 61, 62, 63, 64, 65, 66, 67, 68, 69, 70, 71, 72, 73, 74, 75, 76, 77, 78, 79, 80, 81, 82, 83, 84, 85, 86, 87, 88, 89, 90, 91, 92, 93, 94, 95, 96, 97, 98, 99, 100, 101, 102, 103, 104, 105, 106, 107, 108, 109, 110, 111, 112, 113, 114, 115, 116, 117, 118, 119, 120, 121, 122, 123, 124, 125, 126, 127, 128, 129, 130, 131, 132, 133, 134, 135, 136, 137, 138, 139, 140, 141, 142, 143, 144, 145, 146, 147, 148, 149, 150, 151, 152, 153, 154, 155, 156, 157, 158, 159, 160, 161, 162, 163, 164, 165, 166, 167, 168, 169, 170, 171, 172, 173, 174, 175, 176, 177, 178, 179, 180, 181, 182, 183, 184, 185, 186, 187, 188, 189, 190, 191, 192, 193, 194, 195, 196, 197, 198, 199, 200, 201, 202, 203, 204, 205, 206, 207, 208, 209, 210, 211, 212, 213, 214, 215, 216, 217, 218, 219, 220, 221, 222, 223, 224, 225, 226, 227, 228, 229, 230, 231, 232, 233, 234, 235, 236, 237, 238] (by decide +kernel) (by decide +kernel)) (goodIn_sub (fun _ h => List.mem_cons_of_mem _ (List.mem_append_right _ h)) (by decide +kernel))
set_option maxRecDepth 20000 in
theorem gL_playout_X8_playout : GoodIn wsL_playout (wsV RL 82 RX8 yX8_playout wsX8_playout) := goodIn_app (goodIn_of _ (by decide +kernel)) ggL_playout_X8_playout
set_option maxRecDepth 20000 in
theorem ggL_meanDifference_X8_meanDifference : GoodIn wsL_meanDifference wsX8_meanDifference := goodIn_ca (goodIn_r _ [6, 7, 8, 9, 10, 11, 12, 13, 14, 15, 16, 17, 18, 19, 20, 21, 22, 23, 24, 25, 26, 27, 28, 29, 30, 31, 32, 33, 34, 35, 36, 37, 38, 5, 39, 40, 41, 42, 43, 44, 45, 46, 47, 48, 49, 50, 51, 52, 53, 54, 55, 56, 57, 58, 59, 60, 61, 62, 63, 64, 65, 66, 67, 68, 69, 70, 71, 72, 73, 74, 75, 76, 77, 78, 79, 80, 81, 82, 83, 84, 85, 86, 87, 88, 89, 90, 91, 92, 93, 94, 95, 96, 97, 98, 99, 100, 101, 102, 103, 104, 105, 106, 107, 108, 109, 110, 111, 112, 113, 114, 115, 116, 117, 118, 119, 120, 121, 122, 123, 124, 125, 126, 127, 128, 129, 130, 131, 132, 133, 134] (by decide +kernel) (by decide +kernel)) (goodIn_sub (fun _ h => List.mem_cons_of_mem _ (List.mem_append_right _ h)) (by decide +kernel))
set_option maxRecDepth 20000 in
theorem gL_meanDifference_X8_meanDifference : GoodIn wsL_meanDifference (wsV RL 86 RX8 yX8_meanDifference wsX8_meanDifference) := goodIn_app (goodIn_of _ (by decide +kernel)) ggL_meanDifference_X8_meanDifference
