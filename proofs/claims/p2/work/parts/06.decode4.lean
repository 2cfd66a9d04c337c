theorem dX11_part_99 : decode cX11_part 99 = .ok (.ireturn, 1) := by decide +kernel
set_option maxRecDepth 20000 in
theorem ggX11_line_X11_bringSpans : GoodIn wsX11_line wsX11_bringSpans := goodIn_r _ [6, 1, 7, 8, 9, 10, 11, 12, 13, 14, 15, 16, 17, 18, 19, 20, 21, 22, 23, 24, 25, 26, 27, 28, 29, 5, 30, 31, 32, 33, 34, 35, 36, 37, 38, 39, 40, 41, 42, 43, 44, 45, 46, 47, 48, 49, 50, 51, 52, 53, 54, 55, 56, 57, 58, 59, 60, 61, 62, 63, 64, 65, 66, 67, 68, 69, 70, 71, 72, 73, 74, 75, 76, 77, 78, 79, 80, 81, 82, 83, 84, 85, 86, 87, 88, 89, 90, 91, 92, 93, 94, 95, 96, 97, 98, 99, 100, 101, 102, 103, 104, 105, 106, 107, 108, 109] (by decide +kernel) (by decide +kernel)
set_option maxRecDepth 20000 in
theorem gX11_line_X11_bringSpans : GoodIn wsX11_line (wsV RX11 230 RX11 yX11_bringSpans wsX11_bringSpans) := goodIn_app (goodIn_of _ (by decide +kernel)) ggX11_line_X11_bringSpans
theorem dX11_line_0 : decode cX11_line 0 = .ok (.aload_n 0, 1) := by decide +kernel
theorem dX11_line_1 : decode cX11_line 1 = .ok (.invokevirtual 230, 3) := by decide +kernel
theorem dX11_line_4 : decode cX11_line 4 = .ok (.aload_n 0, 1) := by decide +kernel
theorem dX11_line_5 : decode cX11_line 5 = .ok (.getfield 75, 3) := by decide +kernel
theorem dX11_line_8 : decode cX11_line 8 = .ok (.getfield 233, 3) := by decide +kernel
theorem dX11_line_11 : decode cX11_line 11 = .ok (.ifCond .eq 30, 3) := by decide +kernel
theorem dX11_line_14 : decode cX11_line 14 = .ok (.iload_n 1, 1) := by decide +kernel
theorem dX11_line_15 : decode cX11_line 15 = .ok (.ifCond .lt 26, 3) := by decide +kernel
theorem dX11_line_18 : decode cX11_line 18 = .ok (.iload_n 1, 1) := by decide +kernel
theorem dX11_line_19 : decode cX11_line 19 = .ok (.aload_n 0, 1) := by decide +kernel
theorem dX11_line_20 : decode cX11_line 20 = .ok (.getfield 75, 3) := by decide +kernel
theorem dX11_line_23 : decode cX11_line 23 = .ok (.getfield 236, 3) := by decide +kernel
theorem dX11_line_26 : decode cX11_line 26 = .ok (.if_icmp .ge 15, 3) := by decide +kernel
theorem dX11_line_29 : decode cX11_line 29 = .ok (.aload_n 0, 1) := by decide +kernel
theorem dX11_line_30 : decode cX11_line 30 = .ok (.getfield 75, 3) := by decide +kernel
theorem dX11_line_33 : decode cX11_line 33 = .ok (.getfield 237, 3) := by decide +kernel
theorem dX11_line_36 : decode cX11_line 36 = .ok (.iload_n 1, 1) := by decide +kernel
theorem dX11_line_37 : decode cX11_line 37 = .ok (.iaload, 1) := by decide +kernel
theorem dX11_line_38 : decode cX11_line 38 = .ok (.goto 5, 3) := by decide +kernel
theorem dX11_line_41 : decode cX11_line 41 = .ok (.bipush (-9), 2) := by decide +kernel
theorem dX11_line_43 : decode cX11_line 43 = .ok (.ireturn, 1) := by decide +kernel
set_option maxRecDepth 20000 in
theorem ggX11_span_X4_has : GoodIn wsX11_span wsX4_has := goodIn_r _ [6, 7, 108, 109, 110] (by decide +kernel) (by decide +kernel)
set_option maxRecDepth 20000 in
theorem gX11_span_X4_has_n93 : GoodIn wsX11_span (wsX4_has) := ggX11_span_X4_has
set_option maxRecDepth 20000 in
theorem ggX11_span_X11_bringSpans : GoodIn wsX11_span wsX11_bringSpans := goodIn_r _ [12, 2, 1, 13, 14, 15, 16, 17, 18, 19, 20, 21, 22, 4, 23, 24, 7, 25, 26, 27, 28, 29, 30, 31, 32, 11, 33, 34, 35, 36, 37, 38, 39, 40, 41, 42, 43, 44, 45, 46, 47, 48, 49, 50, 51, 52, 53, 54, 55, 56, 57, 58, 59, 60, 61, 62, 63, 64, 65, 66, 67, 68, 69, 70, 71, 72, 73, 74, 75, 76, 77, 78, 79, 80, 87, 88, 89, 90, 91, 92, 93, 94, 95, 96, 97, 98, 99, 100, 101, 102, 103, 104, 105, 106, 107, 108, 109, 110, 111, 112, 113, 114, 115, 116, 117, 118] (by decide +kernel) (by decide +kernel)
set_option maxRecDepth 20000 in
theorem gX11_span_X11_bringSpans : GoodIn wsX11_span (wsV RX11 230 RX11 yX11_bringSpans wsX11_bringSpans) := goodIn_app (goodIn_of _ (by decide +kernel)) ggX11_span_X11_bringSpans
set_option maxRecDepth 20000 in
theorem ggX11_span_X0_lastOf : GoodIn wsX11_span wsX0_lastOf := goodIn_r _ [83, 53, 61, 76, 32, 11, 33, 100, 101, 102, 103, 104, 105, 106, 107] (by decide +kernel) (by decide +kernel)
set_option maxRecDepth 20000 in
theorem gX11_span_X0_lastOf_n238 : GoodIn wsX11_span (wsX0_lastOf) := ggX11_span_X0_lastOf
set_option maxRecDepth 20000 in
theorem ggX11_span_X0_firstOf : GoodIn wsX11_span wsX0_firstOf := goodIn_r _ [86, 53, 61, 76, 32, 11, 33, 100, 101, 102, 103, 104, 105, 106, 107] (by decide +kernel) (by decide +kernel)
set_option maxRecDepth 20000 in
theorem gX11_span_X0_firstOf_n241 : GoodIn wsX11_span (wsX0_firstOf) := ggX11_span_X0_firstOf
theorem dX11_span_0 : decode cX11_span 0 = .ok (.aload_n 0, 1) := by decide +kernel
theorem dX11_span_1 : decode cX11_span 1 = .ok (.getfield 10, 3) := by decide +kernel
theorem dX11_span_4 : decode cX11_span 4 = .ok (.iload_n 1, 1) := by decide +kernel
theorem dX11_span_5 : decode cX11_span 5 = .ok (.invokevirtual 93, 3) := by decide +kernel
theorem dX11_span_8 : decode cX11_span 8 = .ok (.ifCond .ne 5, 3) := by decide +kernel
theorem dX11_span_11 : decode cX11_span 11 = .ok (.iconst (-1), 1) := by decide +kernel
theorem dX11_span_12 : decode cX11_span 12 = .ok (.ireturn, 1) := by decide +kernel
theorem dX11_span_13 : decode cX11_span 13 = .ok (.aload_n 0, 1) := by decide +kernel
theorem dX11_span_14 : decode cX11_span 14 = .ok (.invokevirtual 230, 3) := by decide +kernel
theorem dX11_span_17 : decode cX11_span 17 = .ok (.aload_n 0, 1) := by decide +kernel
theorem dX11_span_18 : decode cX11_span 18 = .ok (.getfield 75, 3) := by decide +kernel
theorem dX11_span_21 : decode cX11_span 21 = .ok (.getfield 233, 3) := by decide +kernel
theorem dX11_span_24 : decode cX11_span 24 = .ok (.ifCond .ne 6, 3) := by decide +kernel
theorem dX11_span_27 : decode cX11_span 27 = .ok (.bipush (-4), 2) := by decide +kernel
theorem dX11_span_29 : decode cX11_span 29 = .ok (.ireturn, 1) := by decide +kernel
theorem dX11_span_30 : decode cX11_span 30 = .ok (.iload_n 2, 1) := by decide +kernel
theorem dX11_span_31 : decode cX11_span 31 = .ok (.ifCond .eq 14, 3) := by decide +kernel
theorem dX11_span_34 : decode cX11_span 34 = .ok (.aload_n 0, 1) := by decide +kernel
theorem dX11_span_35 : decode cX11_span 35 = .ok (.getfield 75, 3) := by decide +kernel
theorem dX11_span_38 : decode cX11_span 38 = .ok (.iload_n 1, 1) := by decide +kernel
theorem dX11_span_39 : decode cX11_span 39 = .ok (.invokevirtual 238, 3) := by decide +kernel
theorem dX11_span_42 : decode cX11_span 42 = .ok (.goto 11, 3) := by decide +kernel
theorem dX11_span_45 : decode cX11_span 45 = .ok (.aload_n 0, 1) := by decide +kernel
theorem dX11_span_46 : decode cX11_span 46 = .ok (.getfield 75, 3) := by decide +kernel
theorem dX11_span_49 : decode cX11_span 49 = .ok (.iload_n 1, 1) := by decide +kernel
theorem dX11_span_50 : decode cX11_span 50 = .ok (.invokevirtual 241, 3) := by decide +kernel
theorem dX11_span_53 : decode cX11_span 53 = .ok (.ireturn, 1) := by decide +kernel
set_option maxRecDepth 20000 in
theorem ggX11_far_X2_bring : GoodIn wsX11_far wsX2_bring := goodIn_r _ [6, 7, 8, 9, 10, 11, 4, 12, 13, 14, 15, 16, 17, 18, 19, 20, 21, 22, 23, 24, 25, 26, 27, 28, 29, 30, 31, 32, 33, 34, 35, 36, 37, 38, 39, 40, 54, 55, 56, 57, 58, 59, 60] (by decide +kernel) (by decide +kernel)
set_option maxRecDepth 20000 in
theorem gX11_far_X2_bring_n244 : GoodIn wsX11_far (wsX2_bring) := ggX11_far_X2_bring
theorem dX11_far_0 : decode cX11_far 0 = .ok (.aload_n 0, 1) := by decide +kernel
theorem dX11_far_1 : decode cX11_far 1 = .ok (.getfield 66, 3) := by decide +kernel
theorem dX11_far_4 : decode cX11_far 4 = .ok (.aload_n 0, 1) := by decide +kernel
theorem dX11_far_5 : decode cX11_far 5 = .ok (.getfield 10, 3) := by decide +kernel
theorem dX11_far_8 : decode cX11_far 8 = .ok (.invokevirtual 244, 3) := by decide +kernel
theorem dX11_far_11 : decode cX11_far 11 = .ok (.aload_n 0, 1) := by decide +kernel
theorem dX11_far_12 : decode cX11_far 12 = .ok (.getfield 66, 3) := by decide +kernel
theorem dX11_far_15 : decode cX11_far 15 = .ok (.getfield 245, 3) := by decide +kernel
theorem dX11_far_18 : decode cX11_far 18 = .ok (.ifCond .eq 24, 3) := by decide +kernel
theorem dX11_far_21 : decode cX11_far 21 = .ok (.iload_n 1, 1) := by decide +kernel
theorem dX11_far_22 : decode cX11_far 22 = .ok (.ifCond .lt 20, 3) := by decide +kernel
theorem dX11_far_25 : decode cX11_far 25 = .ok (.iload_n 1, 1) := by decide +kernel
theorem dX11_far_26 : decode cX11_far 26 = .ok (.iconst 3, 1) := by decide +kernel
theorem dX11_far_27 : decode cX11_far 27 = .ok (.if_icmp .ge 15, 3) := by decide +kernel
theorem dX11_far_30 : decode cX11_far 30 = .ok (.aload_n 0, 1) := by decide +kernel
theorem dX11_far_31 : decode cX11_far 31 = .ok (.getfield 66, 3) := by decide +kernel
theorem dX11_far_34 : decode cX11_far 34 = .ok (.getfield 246, 3) := by decide +kernel
theorem dX11_far_37 : decode cX11_far 37 = .ok (.iload_n 1, 1) := by decide +kernel
theorem dX11_far_38 : decode cX11_far 38 = .ok (.iaload, 1) := by decide +kernel
theorem dX11_far_39 : decode cX11_far 39 = .ok (.goto 5, 3) := by decide +kernel
theorem dX11_far_42 : decode cX11_far 42 = .ok (.bipush (-9), 2) := by decide +kernel
theorem dX11_far_44 : decode cX11_far 44 = .ok (.ireturn, 1) := by decide +kernel
set_option maxRecDepth 20000 in
theorem ggX11_columns_X11_found : GoodIn wsX11_columns wsX11_found := goodIn_r _ [6, 7, 8, 20, 21, 22, 23, 24, 25, 26, 27, 28, 29, 30, 31, 32] (by decide +kernel) (by decide +kernel)
set_option maxRecDepth 20000 in
theorem gX11_columns_X11_found : GoodIn wsX11_columns (wsV RX11 114 RX11 yX11_found wsX11_found) := goodIn_app (goodIn_of _ (by decide +kernel)) ggX11_columns_X11_found
set_option maxRecDepth 20000 in
theorem ggX11_columns_X10_restart : GoodIn wsX11_columns wsX10_restart := goodIn_r _ [12, 13, 14, 15, 16, 17, 18, 19, 33, 34, 35] (by decide +kernel) (by decide +kernel)
set_option maxRecDepth 20000 in
theorem gX11_columns_X10_restart_n249 : GoodIn wsX11_columns (wsX10_restart) := ggX11_columns_X10_restart
theorem dX11_columns_0 : decode cX11_columns 0 = .ok (.iload_n 1, 1) := by decide +kernel
theorem dX11_columns_1 : decode cX11_columns 1 = .ok (.bipush 8, 2) := by decide +kernel
theorem dX11_columns_3 : decode cX11_columns 3 = .ok (.if_icmp .le 5, 3) := by decide +kernel
theorem dX11_columns_6 : decode cX11_columns 6 = .ok (.iconst (-1), 1) := by decide +kernel
theorem dX11_columns_7 : decode cX11_columns 7 = .ok (.ireturn, 1) := by decide +kernel
theorem dX11_columns_8 : decode cX11_columns 8 = .ok (.iload_n 1, 1) := by decide +kernel
theorem dX11_columns_9 : decode cX11_columns 9 = .ok (.ifCond .ge 9, 3) := by decide +kernel
theorem dX11_columns_12 : decode cX11_columns 12 = .ok (.aload_n 0, 1) := by decide +kernel
theorem dX11_columns_13 : decode cX11_columns 13 = .ok (.iconst 4, 1) := by decide +kernel
theorem dX11_columns_14 : decode cX11_columns 14 = .ok (.invokevirtual 114, 3) := by decide +kernel
theorem dX11_columns_17 : decode cX11_columns 17 = .ok (.ireturn, 1) := by decide +kernel
theorem dX11_columns_18 : decode cX11_columns 18 = .ok (.aload_n 0, 1) := by decide +kernel
theorem dX11_columns_19 : decode cX11_columns 19 = .ok (.getfield 19, 3) := by decide +kernel
theorem dX11_columns_22 : decode cX11_columns 22 = .ok (.iload_n 1, 1) := by decide +kernel
theorem dX11_columns_23 : decode cX11_columns 23 = .ok (.invokevirtual 249, 3) := by decide +kernel
theorem dX11_columns_26 : decode cX11_columns 26 = .ok (.iload_n 1, 1) := by decide +kernel
theorem dX11_columns_27 : decode cX11_columns 27 = .ok (.ireturn, 1) := by decide +kernel
set_option maxRecDepth 20000 in
theorem ggX11_row_X10_hasPlace : GoodIn wsX11_row wsX10_hasPlace := goodIn_r _ [5] (by decide +kernel) (by decide +kernel)
set_option maxRecDepth 20000 in
theorem gX11_row_X10_hasPlace_n252 : GoodIn wsX11_row (wsX10_hasPlace) := ggX11_row_X10_hasPlace
set_option maxRecDepth 20000 in
theorem ggX11_row_X11_found : GoodIn wsX11_row wsX11_found := goodIn_r _ [10, 11, 12, 18, 19, 20, 21, 22, 23, 24, 25, 26, 27, 28, 29, 30] (by decide +kernel) (by decide +kernel)
set_option maxRecDepth 20000 in
theorem gX11_row_X11_found : GoodIn wsX11_row (wsV RX11 114 RX11 yX11_found wsX11_found) := goodIn_app (goodIn_of _ (by decide +kernel)) ggX11_row_X11_found
set_option maxRecDepth 20000 in
theorem ggX11_row_X10_put : GoodIn wsX11_row wsX10_put := goodIn_r _ [15, 16, 17, 31, 32, 33] (by decide +kernel) (by decide +kernel)
set_option maxRecDepth 20000 in
theorem gX11_row_X10_put_n255 : GoodIn wsX11_row (wsX10_put) := ggX11_row_X10_put
theorem dX11_row_0 : decode cX11_row 0 = .ok (.iload_n 2, 1) := by decide +kernel
theorem dX11_row_1 : decode cX11_row 1 = .ok (.ifCond .lt 16, 3) := by decide +kernel
theorem dX11_row_4 : decode cX11_row 4 = .ok (.iload_n 2, 1) := by decide +kernel
theorem dX11_row_5 : decode cX11_row 5 = .ok (.iconst 1, 1) := by decide +kernel
theorem dX11_row_6 : decode cX11_row 6 = .ok (.aload_n 0, 1) := by decide +kernel
theorem dX11_row_7 : decode cX11_row 7 = .ok (.getfield 19, 3) := by decide +kernel
theorem dX11_row_10 : decode cX11_row 10 = .ok (.getfield 133, 3) := by decide +kernel
theorem dX11_row_13 : decode cX11_row 13 = .ok (.ishl, 1) := by decide +kernel
theorem dX11_row_14 : decode cX11_row 14 = .ok (.if_icmp .lt 5, 3) := by decide +kernel
theorem dX11_row_17 : decode cX11_row 17 = .ok (.iconst (-1), 1) := by decide +kernel
theorem dX11_row_18 : decode cX11_row 18 = .ok (.ireturn, 1) := by decide +kernel
theorem dX11_row_19 : decode cX11_row 19 = .ok (.aload_n 0, 1) := by decide +kernel
theorem dX11_row_20 : decode cX11_row 20 = .ok (.getfield 19, 3) := by decide +kernel
theorem dX11_row_23 : decode cX11_row 23 = .ok (.iload_n 1, 1) := by decide +kernel
theorem dX11_row_24 : decode cX11_row 24 = .ok (.invokevirtual 252, 3) := by decide +kernel
theorem dX11_row_27 : decode cX11_row 27 = .ok (.ifCond .ne 9, 3) := by decide +kernel
theorem dX11_row_30 : decode cX11_row 30 = .ok (.aload_n 0, 1) := by decide +kernel
theorem dX11_row_31 : decode cX11_row 31 = .ok (.iconst 2, 1) := by decide +kernel
theorem dX11_row_32 : decode cX11_row 32 = .ok (.invokevirtual 114, 3) := by decide +kernel
theorem dX11_row_35 : decode cX11_row 35 = .ok (.ireturn, 1) := by decide +kernel
theorem dX11_row_36 : decode cX11_row 36 = .ok (.aload_n 0, 1) := by decide +kernel
theorem dX11_row_37 : decode cX11_row 37 = .ok (.getfield 19, 3) := by decide +kernel
theorem dX11_row_40 : decode cX11_row 40 = .ok (.iload_n 1, 1) := by decide +kernel
theorem dX11_row_41 : decode cX11_row 41 = .ok (.iload_n 2, 1) := by decide +kernel
theorem dX11_row_42 : decode cX11_row 42 = .ok (.invokevirtual 255, 3) := by decide +kernel
theorem dX11_row_45 : decode cX11_row 45 = .ok (.iconst 1, 1) := by decide +kernel
theorem dX11_row_46 : decode cX11_row 46 = .ok (.ireturn, 1) := by decide +kernel
set_option maxRecDepth 20000 in
theorem ggX11_told_X10_hasPlace : GoodIn wsX11_told wsX10_hasPlace := goodIn_r _ [5] (by decide +kernel) (by decide +kernel)
set_option maxRecDepth 20000 in
theorem gX11_told_X10_hasPlace_n252 : GoodIn wsX11_told (wsX10_hasPlace) := ggX11_told_X10_hasPlace
set_option maxRecDepth 20000 in
theorem ggX11_told_X11_found : GoodIn wsX11_told wsX11_found := goodIn_r _ [10, 11, 12, 13, 14, 15, 16, 17, 18, 19, 20, 21, 22, 23, 24, 25] (by decide +kernel) (by decide +kernel)
set_option maxRecDepth 20000 in
theorem gX11_told_X11_found : GoodIn wsX11_told (wsV RX11 114 RX11 yX11_found wsX11_found) := goodIn_app (goodIn_of _ (by decide +kernel)) ggX11_told_X11_found
theorem dX11_told_0 : decode cX11_told 0 = .ok (.aload_n 0, 1) := by decide +kernel
theorem dX11_told_1 : decode cX11_told 1 = .ok (.getfield 19, 3) := by decide +kernel
theorem dX11_told_4 : decode cX11_told 4 = .ok (.iload_n 1, 1) := by decide +kernel
theorem dX11_told_5 : decode cX11_told 5 = .ok (.invokevirtual 252, 3) := by decide +kernel
theorem dX11_told_8 : decode cX11_told 8 = .ok (.ifCond .ne 9, 3) := by decide +kernel
theorem dX11_told_11 : decode cX11_told 11 = .ok (.aload_n 0, 1) := by decide +kernel
theorem dX11_told_12 : decode cX11_told 12 = .ok (.iconst 2, 1) := by decide +kernel
theorem dX11_told_13 : decode cX11_told 13 = .ok (.invokevirtual 114, 3) := by decide +kernel
theorem dX11_told_16 : decode cX11_told 16 = .ok (.ireturn, 1) := by decide +kernel
theorem dX11_told_17 : decode cX11_told 17 = .ok (.aload_n 0, 1) := by decide +kernel
theorem dX11_told_18 : decode cX11_told 18 = .ok (.getfield 19, 3) := by decide +kernel
theorem dX11_told_21 : decode cX11_told 21 = .ok (.getfield 136, 3) := by decide +kernel
theorem dX11_told_24 : decode cX11_told 24 = .ok (.iload_n 1, 1) := by decide +kernel
theorem dX11_told_25 : decode cX11_told 25 = .ok (.iaload, 1) := by decide +kernel
theorem dX11_told_26 : decode cX11_told 26 = .ok (.iconst (-1), 1) := by decide +kernel
theorem dX11_told_27 : decode cX11_told 27 = .ok (.if_icmp .ne 11, 3) := by decide +kernel
theorem dX11_told_30 : decode cX11_told 30 = .ok (.aload_n 0, 1) := by decide +kernel
theorem dX11_told_31 : decode cX11_told 31 = .ok (.iconst 1, 1) := by decide +kernel
theorem dX11_told_32 : decode cX11_told 32 = .ok (.invokevirtual 114, 3) := by decide +kernel
theorem dX11_told_35 : decode cX11_told 35 = .ok (.goto 12, 3) := by decide +kernel
theorem dX11_told_38 : decode cX11_told 38 = .ok (.aload_n 0, 1) := by decide +kernel
theorem dX11_told_39 : decode cX11_told 39 = .ok (.getfield 19, 3) := by decide +kernel
theorem dX11_told_42 : decode cX11_told 42 = .ok (.getfield 136, 3) := by decide +kernel
theorem dX11_told_45 : decode cX11_told 45 = .ok (.iload_n 1, 1) := by decide +kernel
theorem dX11_told_46 : decode cX11_told 46 = .ok (.iaload, 1) := by decide +kernel
theorem dX11_told_47 : decode cX11_told 47 = .ok (.ireturn, 1) := by decide +kernel
set_option maxRecDepth 20000 in
theorem ggX11_tear_X10_hasPlace : GoodIn wsX11_tear wsX10_hasPlace := goodIn_r _ [5] (by decide +kernel) (by decide +kernel)
set_option maxRecDepth 20000 in
theorem gX11_tear_X10_hasPlace_n252 : GoodIn wsX11_tear (wsX10_hasPlace) := ggX11_tear_X10_hasPlace
set_option maxRecDepth 20000 in
theorem ggX11_tear_X11_found : GoodIn wsX11_tear wsX11_found := goodIn_r _ [10, 11, 12, 18, 19, 20, 21, 22, 23, 24, 25, 26, 27, 28, 29, 30] (by decide +kernel) (by decide +kernel)
set_option maxRecDepth 20000 in
theorem gX11_tear_X11_found : GoodIn wsX11_tear (wsV RX11 114 RX11 yX11_found wsX11_found) := goodIn_app (goodIn_of _ (by decide +kernel)) ggX11_tear_X11_found
set_option maxRecDepth 20000 in
theorem ggX11_tear_X10_put : GoodIn wsX11_tear wsX10_put := goodIn_r _ [15, 16, 17, 31, 32, 33] (by decide +kernel) (by decide +kernel)
set_option maxRecDepth 20000 in
theorem gX11_tear_X10_put_n255 : GoodIn wsX11_tear (wsX10_put) := ggX11_tear_X10_put
theorem dX11_tear_0 : decode cX11_tear 0 = .ok (.aload_n 0, 1) := by decide +kernel
theorem dX11_tear_1 : decode cX11_tear 1 = .ok (.getfield 19, 3) := by decide +kernel
theorem dX11_tear_4 : decode cX11_tear 4 = .ok (.iload_n 1, 1) := by decide +kernel
theorem dX11_tear_5 : decode cX11_tear 5 = .ok (.invokevirtual 252, 3) := by decide +kernel
theorem dX11_tear_8 : decode cX11_tear 8 = .ok (.ifCond .ne 9, 3) := by decide +kernel
theorem dX11_tear_11 : decode cX11_tear 11 = .ok (.aload_n 0, 1) := by decide +kernel
theorem dX11_tear_12 : decode cX11_tear 12 = .ok (.iconst 2, 1) := by decide +kernel
theorem dX11_tear_13 : decode cX11_tear 13 = .ok (.invokevirtual 114, 3) := by decide +kernel
theorem dX11_tear_16 : decode cX11_tear 16 = .ok (.ireturn, 1) := by decide +kernel
theorem dX11_tear_17 : decode cX11_tear 17 = .ok (.aload_n 0, 1) := by decide +kernel
theorem dX11_tear_18 : decode cX11_tear 18 = .ok (.getfield 19, 3) := by decide +kernel
theorem dX11_tear_21 : decode cX11_tear 21 = .ok (.getfield 136, 3) := by decide +kernel
theorem dX11_tear_24 : decode cX11_tear 24 = .ok (.iload_n 1, 1) := by decide +kernel
theorem dX11_tear_25 : decode cX11_tear 25 = .ok (.iaload, 1) := by decide +kernel
theorem dX11_tear_26 : decode cX11_tear 26 = .ok (.iconst (-1), 1) := by decide +kernel
theorem dX11_tear_27 : decode cX11_tear 27 = .ok (.if_icmp .ne 9, 3) := by decide +kernel
theorem dX11_tear_30 : decode cX11_tear 30 = .ok (.aload_n 0, 1) := by decide +kernel
theorem dX11_tear_31 : decode cX11_tear 31 = .ok (.iconst 1, 1) := by decide +kernel
theorem dX11_tear_32 : decode cX11_tear 32 = .ok (.invokevirtual 114, 3) := by decide +kernel
theorem dX11_tear_35 : decode cX11_tear 35 = .ok (.ireturn, 1) := by decide +kernel
theorem dX11_tear_36 : decode cX11_tear 36 = .ok (.aload_n 0, 1) := by decide +kernel
theorem dX11_tear_37 : decode cX11_tear 37 = .ok (.getfield 19, 3) := by decide +kernel
theorem dX11_tear_40 : decode cX11_tear 40 = .ok (.iload_n 1, 1) := by decide +kernel
theorem dX11_tear_41 : decode cX11_tear 41 = .ok (.iconst (-1), 1) := by decide +kernel
theorem dX11_tear_42 : decode cX11_tear 42 = .ok (.invokevirtual 255, 3) := by decide +kernel
theorem dX11_tear_45 : decode cX11_tear 45 = .ok (.iconst 1, 1) := by decide +kernel
theorem dX11_tear_46 : decode cX11_tear 46 = .ok (.ireturn, 1) := by decide +kernel
set_option maxRecDepth 20000 in
theorem ggX11_copy_X10_hasRun : GoodIn wsX11_copy wsX10_hasRun := goodIn_r _ [5] (by decide +kernel) (by decide +kernel)
set_option maxRecDepth 20000 in
theorem gX11_copy_X10_hasRun_n259 : GoodIn wsX11_copy (wsX10_hasRun) := ggX11_copy_X10_hasRun
set_option maxRecDepth 20000 in
theorem ggX11_copy_X11_found : GoodIn wsX11_copy wsX11_found := goodIn_r _ [10, 11, 12, 22, 23, 24, 25, 26, 27, 28, 29, 30, 31, 32, 33, 34] (by decide +kernel) (by decide +kernel)
set_option maxRecDepth 20000 in
theorem gX11_copy_X11_found : GoodIn wsX11_copy (wsV RX11 114 RX11 yX11_found wsX11_found) := goodIn_app (goodIn_of _ (by decide +kernel)) ggX11_copy_X11_found
set_option maxRecDepth 20000 in
theorem ggX11_copy_X10_move : GoodIn wsX11_copy wsX10_move := goodIn_r _ [15, 16, 17, 18, 19, 20, 21, 35, 36, 37] (by decide +kernel) (by decide +kernel)
set_option maxRecDepth 20000 in
theorem gX11_copy_X10_move_n262 : GoodIn wsX11_copy (wsX10_move) := ggX11_copy_X10_move
theorem dX11_copy_0 : decode cX11_copy 0 = .ok (.aload_n 0, 1) := by decide +kernel
theorem dX11_copy_1 : decode cX11_copy 1 = .ok (.getfield 19, 3) := by decide +kernel
theorem dX11_copy_4 : decode cX11_copy 4 = .ok (.iload_n 1, 1) := by decide +kernel
theorem dX11_copy_5 : decode cX11_copy 5 = .ok (.iload_n 3, 1) := by decide +kernel
theorem dX11_copy_6 : decode cX11_copy 6 = .ok (.invokevirtual 259, 3) := by decide +kernel
theorem dX11_copy_9 : decode cX11_copy 9 = .ok (.ifCond .eq 15, 3) := by decide +kernel
theorem dX11_copy_12 : decode cX11_copy 12 = .ok (.aload_n 0, 1) := by decide +kernel
theorem dX11_copy_13 : decode cX11_copy 13 = .ok (.getfield 19, 3) := by decide +kernel
theorem dX11_copy_16 : decode cX11_copy 16 = .ok (.iload_n 2, 1) := by decide +kernel
theorem dX11_copy_17 : decode cX11_copy 17 = .ok (.iload_n 3, 1) := by decide +kernel
theorem dX11_copy_18 : decode cX11_copy 18 = .ok (.invokevirtual 259, 3) := by decide +kernel
theorem dX11_copy_21 : decode cX11_copy 21 = .ok (.ifCond .ne 9, 3) := by decide +kernel
theorem dX11_copy_24 : decode cX11_copy 24 = .ok (.aload_n 0, 1) := by decide +kernel
theorem dX11_copy_25 : decode cX11_copy 25 = .ok (.iconst 2, 1) := by decide +kernel
theorem dX11_copy_26 : decode cX11_copy 26 = .ok (.invokevirtual 114, 3) := by decide +kernel
theorem dX11_copy_29 : decode cX11_copy 29 = .ok (.ireturn, 1) := by decide +kernel
theorem dX11_copy_30 : decode cX11_copy 30 = .ok (.aload_n 0, 1) := by decide +kernel
theorem dX11_copy_31 : decode cX11_copy 31 = .ok (.getfield 19, 3) := by decide +kernel
theorem dX11_copy_34 : decode cX11_copy 34 = .ok (.iload_n 1, 1) := by decide +kernel
theorem dX11_copy_35 : decode cX11_copy 35 = .ok (.iload_n 2, 1) := by decide +kernel
theorem dX11_copy_36 : decode cX11_copy 36 = .ok (.iload_n 3, 1) := by decide +kernel
theorem dX11_copy_37 : decode cX11_copy 37 = .ok (.invokevirtual 262, 3) := by decide +kernel
theorem dX11_copy_40 : decode cX11_copy 40 = .ok (.iconst 1, 1) := by decide +kernel
theorem dX11_copy_41 : decode cX11_copy 41 = .ok (.ireturn, 1) := by decide +kernel
set_option maxRecDepth 20000 in
theorem ggX11_seatings_X11_bringSeats : GoodIn wsX11_seatings wsX11_bringSeats := goodIn_r _ [6, 1, 7, 8, 9, 10, 11, 12, 13, 14, 15, 16, 17, 18, 19, 20, 21, 22, 23, 24, 25, 26, 27, 28, 29, 30, 31, 32, 33, 34, 35, 36, 37, 38, 5, 39, 40, 41, 42, 43, 44, 45, 46, 47, 48, 49, 50, 51, 52, 53, 54, 55, 56, 57, 58, 59, 60, 61, 62, 63, 64, 65, 66, 67] (by decide +kernel) (by decide +kernel)
set_option maxRecDepth 20000 in
theorem gX11_seatings_X11_bringSeats : GoodIn wsX11_seatings (wsV RX11 266 RX11 yX11_bringSeats wsX11_bringSeats) := goodIn_app (goodIn_of _ (by decide +kernel)) ggX11_seatings_X11_bringSeats
theorem dX11_seatings_0 : decode cX11_seatings 0 = .ok (.aload_n 0, 1) := by decide +kernel
theorem dX11_seatings_1 : decode cX11_seatings 1 = .ok (.invokevirtual 266, 3) := by decide +kernel
theorem dX11_seatings_4 : decode cX11_seatings 4 = .ok (.aload_n 0, 1) := by decide +kernel
theorem dX11_seatings_5 : decode cX11_seatings 5 = .ok (.getfield 79, 3) := by decide +kernel
theorem dX11_seatings_8 : decode cX11_seatings 8 = .ok (.getfield 269, 3) := by decide +kernel
theorem dX11_seatings_11 : decode cX11_seatings 11 = .ok (.ireturn, 1) := by decide +kernel
set_option maxRecDepth 20000 in
theorem ggX11_seat_X11_bringSeats : GoodIn wsX11_seat wsX11_bringSeats := goodIn_r _ [6, 1, 7, 8, 9, 10, 11, 12, 13, 14, 15, 16, 17, 18, 19, 20, 21, 22, 23, 24, 25, 26, 27, 28, 29, 30, 31, 32, 33, 34, 35, 36, 37, 38, 5, 39, 40, 41, 42, 43, 44, 45, 46, 47, 48, 49, 50, 51, 52, 53, 54, 55, 56, 57, 58, 59, 60, 61, 62, 63, 64, 65, 66, 67] (by decide +kernel) (by decide +kernel)
set_option maxRecDepth 20000 in
theorem gX11_seat_X11_bringSeats : GoodIn wsX11_seat (wsV RX11 266 RX11 yX11_bringSeats wsX11_bringSeats) := goodIn_app (goodIn_of _ (by decide +kernel)) ggX11_seat_X11_bringSeats
theorem dX11_seat_0 : decode cX11_seat 0 = .ok (.aload_n 0, 1) := by decide +kernel
theorem dX11_seat_1 : decode cX11_seat 1 = .ok (.invokevirtual 266, 3) := by decide +kernel
theorem dX11_seat_4 : decode cX11_seat 4 = .ok (.aload_n 0, 1) := by decide +kernel
theorem dX11_seat_5 : decode cX11_seat 5 = .ok (.getfield 79, 3) := by decide +kernel
theorem dX11_seat_8 : decode cX11_seat 8 = .ok (.getfield 233, 3) := by decide +kernel
theorem dX11_seat_11 : decode cX11_seat 11 = .ok (.ifCond .eq 30, 3) := by decide +kernel
theorem dX11_seat_14 : decode cX11_seat 14 = .ok (.iload_n 1, 1) := by decide +kernel
theorem dX11_seat_15 : decode cX11_seat 15 = .ok (.ifCond .lt 26, 3) := by decide +kernel
theorem dX11_seat_18 : decode cX11_seat 18 = .ok (.iload_n 1, 1) := by decide +kernel
theorem dX11_seat_19 : decode cX11_seat 19 = .ok (.aload_n 0, 1) := by decide +kernel
theorem dX11_seat_20 : decode cX11_seat 20 = .ok (.getfield 79, 3) := by decide +kernel
theorem dX11_seat_23 : decode cX11_seat 23 = .ok (.getfield 236, 3) := by decide +kernel
theorem dX11_seat_26 : decode cX11_seat 26 = .ok (.if_icmp .ge 15, 3) := by decide +kernel
theorem dX11_seat_29 : decode cX11_seat 29 = .ok (.aload_n 0, 1) := by decide +kernel
theorem dX11_seat_30 : decode cX11_seat 30 = .ok (.getfield 79, 3) := by decide +kernel
theorem dX11_seat_33 : decode cX11_seat 33 = .ok (.getfield 237, 3) := by decide +kernel
theorem dX11_seat_36 : decode cX11_seat 36 = .ok (.iload_n 1, 1) := by decide +kernel
theorem dX11_seat_37 : decode cX11_seat 37 = .ok (.iaload, 1) := by decide +kernel
theorem dX11_seat_38 : decode cX11_seat 38 = .ok (.goto 5, 3) := by decide +kernel
theorem dX11_seat_41 : decode cX11_seat 41 = .ok (.bipush (-9), 2) := by decide +kernel
theorem dX11_seat_43 : decode cX11_seat 43 = .ok (.ireturn, 1) := by decide +kernel
set_option maxRecDepth 20000 in
theorem ggX11_count_X4_pairs : GoodIn wsX11_count wsX4_pairs := goodIn_r _ [7, 8, 9, 10, 11, 12, 13, 14, 15, 16, 35, 36, 37] (by decide +kernel) (by decide +kernel)
set_option maxRecDepth 20000 in
theorem gX11_count_X4_pairs_n148 : GoodIn wsX11_count (wsX4_pairs) := ggX11_count_X4_pairs
set_option maxRecDepth 20000 in
theorem ggX11_count_X10_present : GoodIn wsX11_count wsX10_present := goodIn_r _ [20, 21, 38, 39, 40] (by decide +kernel) (by decide +kernel)
set_option maxRecDepth 20000 in
theorem gX11_count_X10_present_n272 : GoodIn wsX11_count (wsX10_present) := ggX11_count_X10_present
theorem dX11_count_0 : decode cX11_count 0 = .ok (.iload_n 1, 1) := by decide +kernel
theorem dX11_count_1 : decode cX11_count 1 = .ok (.tableswitch 75 0 4 #[35, 43, 51, 59, 67], 35) := by decide +kernel
theorem dX11_count_36 : decode cX11_count 36 = .ok (.aload_n 0, 1) := by decide +kernel
theorem dX11_count_37 : decode cX11_count 37 = .ok (.getfield 10, 3) := by decide +kernel
theorem dX11_count_40 : decode cX11_count 40 = .ok (.getfield 142, 3) := by decide +kernel
theorem dX11_count_43 : decode cX11_count 43 = .ok (.ireturn, 1) := by decide +kernel
theorem dX11_count_44 : decode cX11_count 44 = .ok (.aload_n 0, 1) := by decide +kernel
theorem dX11_count_45 : decode cX11_count 45 = .ok (.getfield 10, 3) := by decide +kernel
theorem dX11_count_48 : decode cX11_count 48 = .ok (.invokevirtual 148, 3) := by decide +kernel
theorem dX11_count_51 : decode cX11_count 51 = .ok (.ireturn, 1) := by decide +kernel
theorem dX11_count_52 : decode cX11_count 52 = .ok (.aload_n 0, 1) := by decide +kernel
theorem dX11_count_53 : decode cX11_count 53 = .ok (.getfield 19, 3) := by decide +kernel
theorem dX11_count_56 : decode cX11_count 56 = .ok (.getfield 133, 3) := by decide +kernel
theorem dX11_count_59 : decode cX11_count 59 = .ok (.ireturn, 1) := by decide +kernel
theorem dX11_count_60 : decode cX11_count 60 = .ok (.aload_n 0, 1) := by decide +kernel
theorem dX11_count_61 : decode cX11_count 61 = .ok (.getfield 19, 3) := by decide +kernel
theorem dX11_count_64 : decode cX11_count 64 = .ok (.invokevirtual 272, 3) := by decide +kernel
theorem dX11_count_67 : decode cX11_count 67 = .ok (.ireturn, 1) := by decide +kernel
theorem dX11_count_68 : decode cX11_count 68 = .ok (.aload_n 0, 1) := by decide +kernel
theorem dX11_count_69 : decode cX11_count 69 = .ok (.getfield 26, 3) := by decide +kernel
theorem dX11_count_72 : decode cX11_count 72 = .ok (.getfield 158, 3) := by decide +kernel
theorem dX11_count_75 : decode cX11_count 75 = .ok (.ireturn, 1) := by decide +kernel
theorem dX11_count_76 : decode cX11_count 76 = .ok (.iconst (-1), 1) := by decide +kernel
theorem dX11_count_77 : decode cX11_count 77 = .ok (.ireturn, 1) := by decide +kernel
theorem dX11_finding_0 : decode cX11_finding 0 = .ok (.aload_n 0, 1) := by decide +kernel
theorem dX11_finding_1 : decode cX11_finding 1 = .ok (.getfield 86, 3) := by decide +kernel
theorem dX11_finding_4 : decode cX11_finding 4 = .ok (.ireturn, 1) := by decide +kernel
theorem dX11_findings_0 : decode cX11_findings 0 = .ok (.iload_n 1, 1) := by decide +kernel
theorem dX11_findings_1 : decode cX11_findings 1 = .ok (.iconst 1, 1) := by decide +kernel
theorem dX11_findings_2 : decode cX11_findings 2 = .ok (.if_icmp .lt 17, 3) := by decide +kernel
theorem dX11_findings_5 : decode cX11_findings 5 = .ok (.iload_n 1, 1) := by decide +kernel
theorem dX11_findings_6 : decode cX11_findings 6 = .ok (.iconst 4, 1) := by decide +kernel
theorem dX11_findings_7 : decode cX11_findings 7 = .ok (.if_icmp .gt 12, 3) := by decide +kernel
theorem dX11_findings_10 : decode cX11_findings 10 = .ok (.aload_n 0, 1) := by decide +kernel
theorem dX11_findings_11 : decode cX11_findings 11 = .ok (.getfield 82, 3) := by decide +kernel
theorem dX11_findings_14 : decode cX11_findings 14 = .ok (.iload_n 1, 1) := by decide +kernel
theorem dX11_findings_15 : decode cX11_findings 15 = .ok (.iaload, 1) := by decide +kernel
theorem dX11_findings_16 : decode cX11_findings 16 = .ok (.goto 4, 3) := by decide +kernel
theorem dX11_findings_19 : decode cX11_findings 19 = .ok (.iconst (-1), 1) := by decide +kernel
theorem dX11_findings_20 : decode cX11_findings 20 = .ok (.ireturn, 1) := by decide +kernel
set_option maxRecDepth 20000 in
theorem ggX11_digest_X11_mix : GoodIn wsX11_digest wsX11_mix := goodIn_r _ [8, 9] (by decide +kernel) (by decide +kernel)
set_option maxRecDepth 20000 in
theorem gX11_digest_X11_mix : GoodIn wsX11_digest (va_wsS RX11 277 yX11_mix wsX11_mix) := goodIn_app (goodIn_of _ (by decide +kernel)) ggX11_digest_X11_mix
set_option maxRecDepth 20000 in
theorem ggX11_digest_X11_mixAll : GoodIn wsX11_digest wsX11_mixAll := goodIn_r _ [12, 5, 6, 7, 8, 9] (by decide +kernel) (by decide +kernel)
set_option maxRecDepth 20000 in
theorem gX11_digest_X11_mixAll : GoodIn wsX11_digest (va_wsS RX11 281 yX11_mixAll wsX11_mixAll) := goodIn_app (goodIn_of _ (by decide +kernel)) ggX11_digest_X11_mixAll
set_option maxRecDepth 20000 in
theorem ggX11_digest_X6_length : GoodIn wsX11_digest wsX6_length := goodIn_r _ [16, 17, 18, 35, 36, 37, 38, 39, 40, 41, 42, 43] (by decide +kernel) (by decide +kernel)
set_option maxRecDepth 20000 in
theorem gX11_digest_X6_length_n181 : GoodIn wsX11_digest (wsX6_length) := ggX11_digest_X6_length
theorem dX11_digest_0 : decode cX11_digest 0 = .ok (.ldc2_w 275, 3) := by decide +kernel
theorem dX11_digest_3 : decode cX11_digest 3 = .ok (.aload_n 0, 1) := by decide +kernel
theorem dX11_digest_4 : decode cX11_digest 4 = .ok (.getfield 10, 3) := by decide +kernel
theorem dX11_digest_7 : decode cX11_digest 7 = .ok (.getfield 142, 3) := by decide +kernel
theorem dX11_digest_10 : decode cX11_digest 10 = .ok (.invokestatic 277, 3) := by decide +kernel
theorem dX11_digest_13 : decode cX11_digest 13 = .ok (.lstore_n 1, 1) := by decide +kernel
theorem dX11_digest_14 : decode cX11_digest 14 = .ok (.lload_n 1, 1) := by decide +kernel
theorem dX11_digest_15 : decode cX11_digest 15 = .ok (.aload_n 0, 1) := by decide +kernel
theorem dX11_digest_16 : decode cX11_digest 16 = .ok (.getfield 10, 3) := by decide +kernel
theorem dX11_digest_19 : decode cX11_digest 19 = .ok (.getfield 108, 3) := by decide +kernel
theorem dX11_digest_22 : decode cX11_digest 22 = .ok (.aload_n 0, 1) := by decide +kernel
theorem dX11_digest_23 : decode cX11_digest 23 = .ok (.getfield 10, 3) := by decide +kernel
theorem dX11_digest_26 : decode cX11_digest 26 = .ok (.getfield 142, 3) := by decide +kernel
theorem dX11_digest_29 : decode cX11_digest 29 = .ok (.invokestatic 281, 3) := by decide +kernel
theorem dX11_digest_32 : decode cX11_digest 32 = .ok (.lstore_n 1, 1) := by decide +kernel
theorem dX11_digest_33 : decode cX11_digest 33 = .ok (.lload_n 1, 1) := by decide +kernel
theorem dX11_digest_34 : decode cX11_digest 34 = .ok (.aload_n 0, 1) := by decide +kernel
theorem dX11_digest_35 : decode cX11_digest 35 = .ok (.getfield 26, 3) := by decide +kernel
theorem dX11_digest_38 : decode cX11_digest 38 = .ok (.getfield 183, 3) := by decide +kernel
theorem dX11_digest_41 : decode cX11_digest 41 = .ok (.aload_n 0, 1) := by decide +kernel
theorem dX11_digest_42 : decode cX11_digest 42 = .ok (.getfield 26, 3) := by decide +kernel
theorem dX11_digest_45 : decode cX11_digest 45 = .ok (.invokevirtual 181, 3) := by decide +kernel
theorem dX11_digest_48 : decode cX11_digest 48 = .ok (.invokestatic 281, 3) := by decide +kernel
theorem dX11_digest_51 : decode cX11_digest 51 = .ok (.lstore_n 1, 1) := by decide +kernel
theorem dX11_digest_52 : decode cX11_digest 52 = .ok (.lload_n 1, 1) := by decide +kernel
theorem dX11_digest_53 : decode cX11_digest 53 = .ok (.aload_n 0, 1) := by decide +kernel
theorem dX11_digest_54 : decode cX11_digest 54 = .ok (.getfield 19, 3) := by decide +kernel
theorem dX11_digest_57 : decode cX11_digest 57 = .ok (.getfield 133, 3) := by decide +kernel
theorem dX11_digest_60 : decode cX11_digest 60 = .ok (.invokestatic 277, 3) := by decide +kernel
theorem dX11_digest_63 : decode cX11_digest 63 = .ok (.lstore_n 1, 1) := by decide +kernel
theorem dX11_digest_64 : decode cX11_digest 64 = .ok (.lload_n 1, 1) := by decide +kernel
theorem dX11_digest_65 : decode cX11_digest 65 = .ok (.aload_n 0, 1) := by decide +kernel
theorem dX11_digest_66 : decode cX11_digest 66 = .ok (.getfield 19, 3) := by decide +kernel
theorem dX11_digest_69 : decode cX11_digest 69 = .ok (.getfield 136, 3) := by decide +kernel
theorem dX11_digest_72 : decode cX11_digest 72 = .ok (.bipush 12, 2) := by decide +kernel
theorem dX11_digest_74 : decode cX11_digest 74 = .ok (.invokestatic 281, 3) := by decide +kernel
theorem dX11_digest_77 : decode cX11_digest 77 = .ok (.lstore_n 1, 1) := by decide +kernel
theorem dX11_digest_78 : decode cX11_digest 78 = .ok (.lload_n 1, 1) := by decide +kernel
theorem dX11_digest_79 : decode cX11_digest 79 = .ok (.aload_n 0, 1) := by decide +kernel
theorem dX11_digest_80 : decode cX11_digest 80 = .ok (.getfield 26, 3) := by decide +kernel
theorem dX11_digest_83 : decode cX11_digest 83 = .ok (.getfield 285, 3) := by decide +kernel
theorem dX11_digest_86 : decode cX11_digest 86 = .ok (.aload_n 0, 1) := by decide +kernel
theorem dX11_digest_87 : decode cX11_digest 87 = .ok (.getfield 26, 3) := by decide +kernel
theorem dX11_digest_90 : decode cX11_digest 90 = .ok (.getfield 158, 3) := by decide +kernel
theorem dX11_digest_93 : decode cX11_digest 93 = .ok (.invokestatic 281, 3) := by decide +kernel
theorem dX11_digest_96 : decode cX11_digest 96 = .ok (.lreturn, 1) := by decide +kernel
theorem dX11_mix_0 : decode cX11_mix 0 = .ok (.ldc2_w 288, 3) := by decide +kernel
theorem dX11_mix_3 : decode cX11_mix 3 = .ok (.lload_n 0, 1) := by decide +kernel
theorem dX11_mix_4 : decode cX11_mix 4 = .ok (.lmul, 1) := by decide +kernel
theorem dX11_mix_5 : decode cX11_mix 5 = .ok (.iload_n 2, 1) := by decide +kernel
theorem dX11_mix_6 : decode cX11_mix 6 = .ok (.i2l, 1) := by decide +kernel
theorem dX11_mix_7 : decode cX11_mix 7 = .ok (.ladd, 1) := by decide +kernel
theorem dX11_mix_8 : decode cX11_mix 8 = .ok (.lreturn, 1) := by decide +kernel
set_option maxRecDepth 20000 in
theorem ggX11_mixAll_X11_mix : GoodIn wsX11_mixAll wsX11_mix := goodIn_r _ [4, 5] (by decide +kernel) (by decide +kernel)
set_option maxRecDepth 20000 in
theorem gX11_mixAll_X11_mix : GoodIn wsX11_mixAll (va_wsS RX11 277 yX11_mix wsX11_mix) := goodIn_app (goodIn_of _ (by decide +kernel)) ggX11_mixAll_X11_mix
theorem dX11_mixAll_0 : decode cX11_mixAll 0 = .ok (.lload_n 0, 1) := by decide +kernel
theorem dX11_mixAll_1 : decode cX11_mixAll 1 = .ok (.lstore 4, 2) := by decide +kernel
theorem dX11_mixAll_3 : decode cX11_mixAll 3 = .ok (.iconst 0, 1) := by decide +kernel
theorem dX11_mixAll_4 : decode cX11_mixAll 4 = .ok (.istore 6, 2) := by decide +kernel
theorem dX11_mixAll_6 : decode cX11_mixAll 6 = .ok (.iload 6, 2) := by decide +kernel
theorem dX11_mixAll_8 : decode cX11_mixAll 8 = .ok (.iload_n 3, 1) := by decide +kernel
theorem dX11_mixAll_9 : decode cX11_mixAll 9 = .ok (.if_icmp .ge 27, 3) := by decide +kernel
theorem dX11_mixAll_12 : decode cX11_mixAll 12 = .ok (.iload 6, 2) := by decide +kernel
theorem dX11_mixAll_14 : decode cX11_mixAll 14 = .ok (.aload_n 2, 1) := by decide +kernel
theorem dX11_mixAll_15 : decode cX11_mixAll 15 = .ok (.arraylength, 1) := by decide +kernel
theorem dX11_mixAll_16 : decode cX11_mixAll 16 = .ok (.if_icmp .ge 20, 3) := by decide +kernel
theorem dX11_mixAll_19 : decode cX11_mixAll 19 = .ok (.lload 4, 2) := by decide +kernel
theorem dX11_mixAll_21 : decode cX11_mixAll 21 = .ok (.aload_n 2, 1) := by decide +kernel
theorem dX11_mixAll_22 : decode cX11_mixAll 22 = .ok (.iload 6, 2) := by decide +kernel
theorem dX11_mixAll_24 : decode cX11_mixAll 24 = .ok (.iaload, 1) := by decide +kernel
theorem dX11_mixAll_25 : decode cX11_mixAll 25 = .ok (.invokestatic 277, 3) := by decide +kernel
theorem dX11_mixAll_28 : decode cX11_mixAll 28 = .ok (.lstore 4, 2) := by decide +kernel
theorem dX11_mixAll_30 : decode cX11_mixAll 30 = .ok (.iinc 6 1, 3) := by decide +kernel
theorem dX11_mixAll_33 : decode cX11_mixAll 33 = .ok (.goto (-27), 3) := by decide +kernel
theorem dX11_mixAll_36 : decode cX11_mixAll 36 = .ok (.lload 4, 2) := by decide +kernel
theorem dX11_mixAll_38 : decode cX11_mixAll 38 = .ok (.lreturn, 1) := by decide +kernel
theorem dX11_found_0 : decode cX11_found 0 = .ok (.aload_n 0, 1) := by decide +kernel
theorem dX11_found_1 : decode cX11_found 1 = .ok (.iload_n 1, 1) := by decide +kernel
theorem dX11_found_2 : decode cX11_found 2 = .ok (.putfield 86, 3) := by decide +kernel
theorem dX11_found_5 : decode cX11_found 5 = .ok (.aload_n 0, 1) := by decide +kernel
theorem dX11_found_6 : decode cX11_found 6 = .ok (.getfield 82, 3) := by decide +kernel
theorem dX11_found_9 : decode cX11_found 9 = .ok (.iload_n 1, 1) := by decide +kernel
theorem dX11_found_10 : decode cX11_found 10 = .ok (.dup2, 1) := by decide +kernel
theorem dX11_found_11 : decode cX11_found 11 = .ok (.iaload, 1) := by decide +kernel
theorem dX11_found_12 : decode cX11_found 12 = .ok (.iconst 1, 1) := by decide +kernel
theorem dX11_found_13 : decode cX11_found 13 = .ok (.iadd, 1) := by decide +kernel
theorem dX11_found_14 : decode cX11_found 14 = .ok (.iastore, 1) := by decide +kernel
theorem dX11_found_15 : decode cX11_found 15 = .ok (.bipush (-3), 2) := by decide +kernel
theorem dX11_found_17 : decode cX11_found 17 = .ok (.ireturn, 1) := by decide +kernel
set_option maxRecDepth 20000 in
theorem ggX11_startGraph_X4_restart : GoodIn wsX11_startGraph wsX4_restart := goodIn_r _ [6, 7, 8, 9, 10, 11, 12, 13, 43, 44, 45] (by decide +kernel) (by decide +kernel)
set_option maxRecDepth 20000 in
theorem gX11_startGraph_X4_restart_n290 : GoodIn wsX11_startGraph (wsX4_restart) := ggX11_startGraph_X4_restart
set_option maxRecDepth 20000 in
theorem ggX11_startGraph_X6_drop : GoodIn wsX11_startGraph wsX6_drop := goodIn_r _ [17, 18, 46, 47, 48, 49, 50, 51, 52, 53, 54] (by decide +kernel) (by decide +kernel)
set_option maxRecDepth 20000 in
theorem gX11_startGraph_X6_drop_n105 : GoodIn wsX11_startGraph (wsX6_drop) := ggX11_startGraph_X6_drop
set_option maxRecDepth 20000 in
theorem ggX11_startGraph_X4_all : GoodIn wsX11_startGraph wsX4_all := goodIn_r _ [21, 7, 43, 44, 45] (by decide +kernel) (by decide +kernel)
set_option maxRecDepth 20000 in
theorem gX11_startGraph_X4_all_n164 : GoodIn wsX11_startGraph (wsX4_all) := ggX11_startGraph_X4_all
set_option maxRecDepth 20000 in
theorem ggX11_startGraph_X6_keepDrafted : GoodIn wsX11_startGraph wsX6_keepDrafted := goodIn_r _ [24, 25, 26, 27, 28, 29, 46, 47, 48, 49, 50, 51, 52, 53, 54] (by decide +kernel) (by decide +kernel)
set_option maxRecDepth 20000 in
theorem gX11_startGraph_X6_keepDrafted_n291 : GoodIn wsX11_startGraph (wsX6_keepDrafted) := ggX11_startGraph_X6_keepDrafted
theorem dX11_startGraph_0 : decode cX11_startGraph 0 = .ok (.aload_n 0, 1) := by decide +kernel
theorem dX11_startGraph_1 : decode cX11_startGraph 1 = .ok (.getfield 10, 3) := by decide +kernel
theorem dX11_startGraph_4 : decode cX11_startGraph 4 = .ok (.iload_n 1, 1) := by decide +kernel
theorem dX11_startGraph_5 : decode cX11_startGraph 5 = .ok (.invokevirtual 290, 3) := by decide +kernel
theorem dX11_startGraph_8 : decode cX11_startGraph 8 = .ok (.aload_n 0, 1) := by decide +kernel
theorem dX11_startGraph_9 : decode cX11_startGraph 9 = .ok (.getfield 26, 3) := by decide +kernel
theorem dX11_startGraph_12 : decode cX11_startGraph 12 = .ok (.invokevirtual 105, 3) := by decide +kernel
theorem dX11_startGraph_15 : decode cX11_startGraph 15 = .ok (.aload_n 0, 1) := by decide +kernel
theorem dX11_startGraph_16 : decode cX11_startGraph 16 = .ok (.getfield 26, 3) := by decide +kernel
theorem dX11_startGraph_19 : decode cX11_startGraph 19 = .ok (.aload_n 0, 1) := by decide +kernel
theorem dX11_startGraph_20 : decode cX11_startGraph 20 = .ok (.getfield 10, 3) := by decide +kernel
theorem dX11_startGraph_23 : decode cX11_startGraph 23 = .ok (.invokevirtual 164, 3) := by decide +kernel
theorem dX11_startGraph_26 : decode cX11_startGraph 26 = .ok (.invokevirtual 291, 3) := by decide +kernel
theorem dX11_startGraph_29 : decode cX11_startGraph 29 = .ok (.return_, 1) := by decide +kernel
set_option maxRecDepth 20000 in
theorem ggX11_isKind_X4_isClique : GoodIn wsX11_isKind wsX4_isClique := goodIn_r _ [5, 6, 7, 8, 9, 10, 27, 28, 29] (by decide +kernel) (by decide +kernel)
set_option maxRecDepth 20000 in
theorem gX11_isKind_X4_isClique_n202 : GoodIn wsX11_isKind (wsX4_isClique) := ggX11_isKind_X4_isClique
set_option maxRecDepth 20000 in
theorem ggX11_isKind_X4_all : GoodIn wsX11_isKind wsX4_all := goodIn_r _ [13, 6, 27, 28, 29] (by decide +kernel) (by decide +kernel)
set_option maxRecDepth 20000 in
theorem gX11_isKind_X4_all_n164 : GoodIn wsX11_isKind (wsX4_all) := ggX11_isKind_X4_all
theorem dX11_isKind_0 : decode cX11_isKind 0 = .ok (.aload_n 0, 1) := by decide +kernel
theorem dX11_isKind_1 : decode cX11_isKind 1 = .ok (.getfield 10, 3) := by decide +kernel
theorem dX11_isKind_4 : decode cX11_isKind 4 = .ok (.getfield 108, 3) := by decide +kernel
theorem dX11_isKind_7 : decode cX11_isKind 7 = .ok (.iload_n 1, 1) := by decide +kernel
theorem dX11_isKind_8 : decode cX11_isKind 8 = .ok (.iaload, 1) := by decide +kernel
theorem dX11_isKind_9 : decode cX11_isKind 9 = .ok (.istore_n 3, 1) := by decide +kernel
theorem dX11_isKind_10 : decode cX11_isKind 10 = .ok (.iload_n 2, 1) := by decide +kernel
theorem dX11_isKind_11 : decode cX11_isKind 11 = .ok (.tableswitch 46 0 2 #[25, 27, 36], 25) := by decide +kernel
theorem dX11_isKind_36 : decode cX11_isKind 36 = .ok (.iconst 1, 1) := by decide +kernel
theorem dX11_isKind_37 : decode cX11_isKind 37 = .ok (.ireturn, 1) := by decide +kernel
theorem dX11_isKind_38 : decode cX11_isKind 38 = .ok (.aload_n 0, 1) := by decide +kernel
theorem dX11_isKind_39 : decode cX11_isKind 39 = .ok (.getfield 10, 3) := by decide +kernel
theorem dX11_isKind_42 : decode cX11_isKind 42 = .ok (.iload_n 3, 1) := by decide +kernel
theorem dX11_isKind_43 : decode cX11_isKind 43 = .ok (.invokevirtual 202, 3) := by decide +kernel
theorem dX11_isKind_46 : decode cX11_isKind 46 = .ok (.ireturn, 1) := by decide +kernel
theorem dX11_isKind_47 : decode cX11_isKind 47 = .ok (.iload_n 3, 1) := by decide +kernel
theorem dX11_isKind_48 : decode cX11_isKind 48 = .ok (.ifCond .ne 7, 3) := by decide +kernel
theorem dX11_isKind_51 : decode cX11_isKind 51 = .ok (.iconst 1, 1) := by decide +kernel
theorem dX11_isKind_52 : decode cX11_isKind 52 = .ok (.goto 4, 3) := by decide +kernel
theorem dX11_isKind_55 : decode cX11_isKind 55 = .ok (.iconst 0, 1) := by decide +kernel
theorem dX11_isKind_56 : decode cX11_isKind 56 = .ok (.ireturn, 1) := by decide +kernel
theorem dX11_isKind_57 : decode cX11_isKind 57 = .ok (.iload_n 3, 1) := by decide +kernel
theorem dX11_isKind_58 : decode cX11_isKind 58 = .ok (.iconst 1, 1) := by decide +kernel
theorem dX11_isKind_59 : decode cX11_isKind 59 = .ok (.iload_n 1, 1) := by decide +kernel
theorem dX11_isKind_60 : decode cX11_isKind 60 = .ok (.ishl, 1) := by decide +kernel
theorem dX11_isKind_61 : decode cX11_isKind 61 = .ok (.ior, 1) := by decide +kernel
theorem dX11_isKind_62 : decode cX11_isKind 62 = .ok (.aload_n 0, 1) := by decide +kernel
theorem dX11_isKind_63 : decode cX11_isKind 63 = .ok (.getfield 10, 3) := by decide +kernel
theorem dX11_isKind_66 : decode cX11_isKind 66 = .ok (.invokevirtual 164, 3) := by decide +kernel
theorem dX11_isKind_69 : decode cX11_isKind 69 = .ok (.if_icmp .ne 18, 3) := by decide +kernel
theorem dX11_isKind_72 : decode cX11_isKind 72 = .ok (.aload_n 0, 1) := by decide +kernel
theorem dX11_isKind_73 : decode cX11_isKind 73 = .ok (.getfield 10, 3) := by decide +kernel
theorem dX11_isKind_76 : decode cX11_isKind 76 = .ok (.iload_n 3, 1) := by decide +kernel
theorem dX11_isKind_77 : decode cX11_isKind 77 = .ok (.invokevirtual 202, 3) := by decide +kernel
theorem dX11_isKind_80 : decode cX11_isKind 80 = .ok (.ifCond .ne 7, 3) := by decide +kernel
theorem dX11_isKind_83 : decode cX11_isKind 83 = .ok (.iconst 1, 1) := by decide +kernel
theorem dX11_isKind_84 : decode cX11_isKind 84 = .ok (.goto 4, 3) := by decide +kernel
theorem dX11_isKind_87 : decode cX11_isKind 87 = .ok (.iconst 0, 1) := by decide +kernel
theorem dX11_isKind_88 : decode cX11_isKind 88 = .ok (.ireturn, 1) := by decide +kernel
set_option maxRecDepth 20000 in
theorem ggX11_bringSpans_X1_bring : GoodIn wsX11_bringSpans wsX1_bring := goodIn_r _ [7, 8, 9, 10, 11, 12, 13, 14, 15, 16, 17, 18, 5, 19, 20, 21, 22, 23, 24, 25, 26, 27, 28, 29, 30, 31, 32, 33, 34, 35, 36, 98, 99, 100, 101, 102, 103, 104, 105, 95, 96, 97] (by decide +kernel) (by decide +kernel)
set_option maxRecDepth 20000 in
theorem gX11_bringSpans_X1_bring_n193 : GoodIn wsX11_bringSpans (wsX1_bring) := ggX11_bringSpans_X1_bring
set_option maxRecDepth 20000 in
theorem ggX11_bringSpans_X0_refuse : GoodIn wsX11_bringSpans wsX0_refuse := goodIn_r _ [40, 41, 42, 43, 44, 38, 45, 46, 47, 87, 88, 89, 90, 91, 92, 93, 94] (by decide +kernel) (by decide +kernel)
set_option maxRecDepth 20000 in
theorem gX11_bringSpans_X0_refuse_n300 : GoodIn wsX11_bringSpans (wsX0_refuse) := ggX11_bringSpans_X0_refuse
set_option maxRecDepth 20000 in
theorem ggX11_bringSpans_X0_restart : GoodIn wsX11_bringSpans wsX0_restart := goodIn_r _ [45, 46, 47, 87, 88, 89, 90, 91, 92, 93, 94] (by decide +kernel) (by decide +kernel)
set_option maxRecDepth 20000 in
theorem gX11_bringSpans_X0_restart_n303 : GoodIn wsX11_bringSpans (wsX0_restart) := ggX11_bringSpans_X0_restart
set_option maxRecDepth 20000 in
theorem ggX11_bringSpans_X1_with : GoodIn wsX11_bringSpans wsX1_with := goodIn_r _ [50, 9, 31, 24, 25, 26, 98, 99, 100, 101, 102, 103, 104, 105] (by decide +kernel) (by decide +kernel)
set_option maxRecDepth 20000 in
theorem gX11_bringSpans_X1_with_n304 : GoodIn wsX11_bringSpans (wsX1_with) := ggX11_bringSpans_X1_with
set_option maxRecDepth 20000 in
theorem ggX11_bringSpans_X0_addRow : GoodIn wsX11_bringSpans wsX0_addRow := goodIn_r _ [53, 47, 54, 87, 88, 89, 90, 91, 92, 93, 94] (by decide +kernel) (by decide +kernel)
set_option maxRecDepth 20000 in
theorem gX11_bringSpans_X0_addRow_n307 : GoodIn wsX11_bringSpans (wsX0_addRow) := ggX11_bringSpans_X0_addRow
set_option maxRecDepth 20000 in
theorem ggX11_bringSpans_X0_findFirst : GoodIn wsX11_bringSpans wsX0_findFirst := goodIn_r _ [57, 58, 46, 41, 59, 60, 61, 62, 63, 64, 65, 66, 67, 38, 68, 69, 70, 71, 72, 73, 47, 54, 24, 25, 26, 87, 88, 89, 90, 91, 92, 93, 94] (by decide +kernel) (by decide +kernel)
set_option maxRecDepth 20000 in
theorem gX11_bringSpans_X0_findFirst_n310 : GoodIn wsX11_bringSpans (wsX0_findFirst) := ggX11_bringSpans_X0_findFirst
theorem dX11_bringSpans_0 : decode cX11_bringSpans 0 = .ok (.aload_n 0, 1) := by decide +kernel
theorem dX11_bringSpans_1 : decode cX11_bringSpans 1 = .ok (.getfield 75, 3) := by decide +kernel
theorem dX11_bringSpans_4 : decode cX11_bringSpans 4 = .ok (.getfield 294, 3) := by decide +kernel
theorem dX11_bringSpans_7 : decode cX11_bringSpans 7 = .ok (.aload_n 0, 1) := by decide +kernel
theorem dX11_bringSpans_8 : decode cX11_bringSpans 8 = .ok (.getfield 10, 3) := by decide +kernel
theorem dX11_bringSpans_11 : decode cX11_bringSpans 11 = .ok (.getfield 297, 3) := by decide +kernel
theorem dX11_bringSpans_14 : decode cX11_bringSpans 14 = .ok (.if_icmp .ne 4, 3) := by decide +kernel
theorem dX11_bringSpans_17 : decode cX11_bringSpans 17 = .ok (.return_, 1) := by decide +kernel
theorem dX11_bringSpans_18 : decode cX11_bringSpans 18 = .ok (.aload_n 0, 1) := by decide +kernel
theorem dX11_bringSpans_19 : decode cX11_bringSpans 19 = .ok (.getfield 75, 3) := by decide +kernel
theorem dX11_bringSpans_22 : decode cX11_bringSpans 22 = .ok (.aload_n 0, 1) := by decide +kernel
theorem dX11_bringSpans_23 : decode cX11_bringSpans 23 = .ok (.getfield 10, 3) := by decide +kernel
theorem dX11_bringSpans_26 : decode cX11_bringSpans 26 = .ok (.getfield 297, 3) := by decide +kernel
theorem dX11_bringSpans_29 : decode cX11_bringSpans 29 = .ok (.putfield 294, 3) := by decide +kernel
theorem dX11_bringSpans_32 : decode cX11_bringSpans 32 = .ok (.aload_n 0, 1) := by decide +kernel
theorem dX11_bringSpans_33 : decode cX11_bringSpans 33 = .ok (.getfield 42, 3) := by decide +kernel
theorem dX11_bringSpans_36 : decode cX11_bringSpans 36 = .ok (.aload_n 0, 1) := by decide +kernel
theorem dX11_bringSpans_37 : decode cX11_bringSpans 37 = .ok (.getfield 10, 3) := by decide +kernel
theorem dX11_bringSpans_40 : decode cX11_bringSpans 40 = .ok (.invokevirtual 193, 3) := by decide +kernel
theorem dX11_bringSpans_43 : decode cX11_bringSpans 43 = .ok (.aload_n 0, 1) := by decide +kernel
theorem dX11_bringSpans_44 : decode cX11_bringSpans 44 = .ok (.getfield 42, 3) := by decide +kernel
theorem dX11_bringSpans_47 : decode cX11_bringSpans 47 = .ok (.getfield 194, 3) := by decide +kernel
theorem dX11_bringSpans_50 : decode cX11_bringSpans 50 = .ok (.bipush 12, 2) := by decide +kernel
theorem dX11_bringSpans_52 : decode cX11_bringSpans 52 = .ok (.if_icmp .le 11, 3) := by decide +kernel
theorem dX11_bringSpans_55 : decode cX11_bringSpans 55 = .ok (.aload_n 0, 1) := by decide +kernel
theorem dX11_bringSpans_56 : decode cX11_bringSpans 56 = .ok (.getfield 75, 3) := by decide +kernel
theorem dX11_bringSpans_59 : decode cX11_bringSpans 59 = .ok (.invokevirtual 300, 3) := by decide +kernel
theorem dX11_bringSpans_62 : decode cX11_bringSpans 62 = .ok (.return_, 1) := by decide +kernel
theorem dX11_bringSpans_63 : decode cX11_bringSpans 63 = .ok (.aload_n 0, 1) := by decide +kernel
theorem dX11_bringSpans_64 : decode cX11_bringSpans 64 = .ok (.getfield 75, 3) := by decide +kernel
theorem dX11_bringSpans_67 : decode cX11_bringSpans 67 = .ok (.aload_n 0, 1) := by decide +kernel
theorem dX11_bringSpans_68 : decode cX11_bringSpans 68 = .ok (.getfield 42, 3) := by decide +kernel
theorem dX11_bringSpans_71 : decode cX11_bringSpans 71 = .ok (.getfield 194, 3) := by decide +kernel
theorem dX11_bringSpans_74 : decode cX11_bringSpans 74 = .ok (.invokevirtual 303, 3) := by decide +kernel
theorem dX11_bringSpans_77 : decode cX11_bringSpans 77 = .ok (.iconst 0, 1) := by decide +kernel
theorem dX11_bringSpans_78 : decode cX11_bringSpans 78 = .ok (.istore_n 1, 1) := by decide +kernel
theorem dX11_bringSpans_79 : decode cX11_bringSpans 79 = .ok (.iload_n 1, 1) := by decide +kernel
theorem dX11_bringSpans_80 : decode cX11_bringSpans 80 = .ok (.aload_n 0, 1) := by decide +kernel
theorem dX11_bringSpans_81 : decode cX11_bringSpans 81 = .ok (.getfield 10, 3) := by decide +kernel
theorem dX11_bringSpans_84 : decode cX11_bringSpans 84 = .ok (.getfield 142, 3) := by decide +kernel
theorem dX11_bringSpans_87 : decode cX11_bringSpans 87 = .ok (.if_icmp .ge 24, 3) := by decide +kernel
theorem dX11_bringSpans_90 : decode cX11_bringSpans 90 = .ok (.aload_n 0, 1) := by decide +kernel
theorem dX11_bringSpans_91 : decode cX11_bringSpans 91 = .ok (.getfield 75, 3) := by decide +kernel
theorem dX11_bringSpans_94 : decode cX11_bringSpans 94 = .ok (.aload_n 0, 1) := by decide +kernel
theorem dX11_bringSpans_95 : decode cX11_bringSpans 95 = .ok (.getfield 42, 3) := by decide +kernel
theorem dX11_bringSpans_98 : decode cX11_bringSpans 98 = .ok (.iload_n 1, 1) := by decide +kernel
theorem dX11_bringSpans_99 : decode cX11_bringSpans 99 = .ok (.invokevirtual 304, 3) := by decide +kernel
theorem dX11_bringSpans_102 : decode cX11_bringSpans 102 = .ok (.invokevirtual 307, 3) := by decide +kernel
theorem dX11_bringSpans_105 : decode cX11_bringSpans 105 = .ok (.iinc 1 1, 3) := by decide +kernel
theorem dX11_bringSpans_108 : decode cX11_bringSpans 108 = .ok (.goto (-29), 3) := by decide +kernel
theorem dX11_bringSpans_111 : decode cX11_bringSpans 111 = .ok (.aload_n 0, 1) := by decide +kernel
theorem dX11_bringSpans_112 : decode cX11_bringSpans 112 = .ok (.getfield 75, 3) := by decide +kernel
theorem dX11_bringSpans_115 : decode cX11_bringSpans 115 = .ok (.invokevirtual 310, 3) := by decide +kernel
theorem dX11_bringSpans_118 : decode cX11_bringSpans 118 = .ok (.return_, 1) := by decide +kernel
set_option maxRecDepth 20000 in
theorem ggX11_bringSeats_X0_restart : GoodIn wsX11_bringSeats wsX0_restart := goodIn_r _ [6, 7, 8, 53, 54, 55, 56, 57, 58, 59, 60] (by decide +kernel) (by decide +kernel)
set_option maxRecDepth 20000 in
theorem gX11_bringSeats_X0_restart_n303 : GoodIn wsX11_bringSeats (wsX0_restart) := ggX11_bringSeats_X0_restart
set_option maxRecDepth 20000 in
theorem ggX11_bringSeats_X0_addRow : GoodIn wsX11_bringSeats wsX0_addRow := goodIn_r _ [11, 8, 12, 53, 54, 55, 56, 57, 58, 59, 60] (by decide +kernel) (by decide +kernel)
set_option maxRecDepth 20000 in
theorem gX11_bringSeats_X0_addRow_n307 : GoodIn wsX11_bringSeats (wsX0_addRow) := ggX11_bringSeats_X0_addRow
set_option maxRecDepth 20000 in
theorem ggX11_bringSeats_X0_findFirst : GoodIn wsX11_bringSeats wsX0_findFirst := goodIn_r _ [15, 16, 7, 17, 18, 19, 20, 21, 22, 23, 24, 25, 26, 4, 27, 28, 29, 30, 31, 32, 8, 12, 33, 34, 35, 53, 54, 55, 56, 57, 58, 59, 60] (by decide +kernel) (by decide +kernel)
set_option maxRecDepth 20000 in
theorem gX11_bringSeats_X0_findFirst_n310 : GoodIn wsX11_bringSeats (wsX0_findFirst) := ggX11_bringSeats_X0_findFirst
set_option maxRecDepth 20000 in
theorem ggX11_bringSeats_X0_countWays : GoodIn wsX11_bringSeats wsX0_countWays := goodIn_r _ [38, 7, 16, 39, 18, 19, 20, 21, 22, 23, 24, 29, 30, 31, 4, 32, 8, 12, 33, 34, 35, 53, 54, 55, 56, 57, 58, 59, 60] (by decide +kernel) (by decide +kernel)
set_option maxRecDepth 20000 in
theorem gX11_bringSeats_X0_countWays_n314 : GoodIn wsX11_bringSeats (wsX0_countWays) := ggX11_bringSeats_X0_countWays
theorem dX11_bringSeats_0 : decode cX11_bringSeats 0 = .ok (.aload_n 0, 1) := by decide +kernel
theorem dX11_bringSeats_1 : decode cX11_bringSeats 1 = .ok (.getfield 79, 3) := by decide +kernel
theorem dX11_bringSeats_4 : decode cX11_bringSeats 4 = .ok (.getfield 294, 3) := by decide +kernel
theorem dX11_bringSeats_7 : decode cX11_bringSeats 7 = .ok (.aload_n 0, 1) := by decide +kernel
theorem dX11_bringSeats_8 : decode cX11_bringSeats 8 = .ok (.getfield 19, 3) := by decide +kernel
theorem dX11_bringSeats_11 : decode cX11_bringSeats 11 = .ok (.getfield 313, 3) := by decide +kernel
theorem dX11_bringSeats_14 : decode cX11_bringSeats 14 = .ok (.if_icmp .ne 4, 3) := by decide +kernel
theorem dX11_bringSeats_17 : decode cX11_bringSeats 17 = .ok (.return_, 1) := by decide +kernel
theorem dX11_bringSeats_18 : decode cX11_bringSeats 18 = .ok (.aload_n 0, 1) := by decide +kernel
theorem dX11_bringSeats_19 : decode cX11_bringSeats 19 = .ok (.getfield 79, 3) := by decide +kernel
theorem dX11_bringSeats_22 : decode cX11_bringSeats 22 = .ok (.aload_n 0, 1) := by decide +kernel
theorem dX11_bringSeats_23 : decode cX11_bringSeats 23 = .ok (.getfield 19, 3) := by decide +kernel
theorem dX11_bringSeats_26 : decode cX11_bringSeats 26 = .ok (.getfield 313, 3) := by decide +kernel
theorem dX11_bringSeats_29 : decode cX11_bringSeats 29 = .ok (.putfield 294, 3) := by decide +kernel
theorem dX11_bringSeats_32 : decode cX11_bringSeats 32 = .ok (.aload_n 0, 1) := by decide +kernel
theorem dX11_bringSeats_33 : decode cX11_bringSeats 33 = .ok (.getfield 79, 3) := by decide +kernel
theorem dX11_bringSeats_36 : decode cX11_bringSeats 36 = .ok (.aload_n 0, 1) := by decide +kernel
theorem dX11_bringSeats_37 : decode cX11_bringSeats 37 = .ok (.getfield 19, 3) := by decide +kernel
theorem dX11_bringSeats_40 : decode cX11_bringSeats 40 = .ok (.getfield 133, 3) := by decide +kernel
theorem dX11_bringSeats_43 : decode cX11_bringSeats 43 = .ok (.invokevirtual 303, 3) := by decide +kernel
theorem dX11_bringSeats_46 : decode cX11_bringSeats 46 = .ok (.iconst 0, 1) := by decide +kernel
theorem dX11_bringSeats_47 : decode cX11_bringSeats 47 = .ok (.istore_n 1, 1) := by decide +kernel
theorem dX11_bringSeats_48 : decode cX11_bringSeats 48 = .ok (.iload_n 1, 1) := by decide +kernel
theorem dX11_bringSeats_49 : decode cX11_bringSeats 49 = .ok (.bipush 12, 2) := by decide +kernel
theorem dX11_bringSeats_51 : decode cX11_bringSeats 51 = .ok (.if_icmp .ge 38, 3) := by decide +kernel
theorem dX11_bringSeats_54 : decode cX11_bringSeats 54 = .ok (.aload_n 0, 1) := by decide +kernel
theorem dX11_bringSeats_55 : decode cX11_bringSeats 55 = .ok (.getfield 19, 3) := by decide +kernel
theorem dX11_bringSeats_58 : decode cX11_bringSeats 58 = .ok (.getfield 136, 3) := by decide +kernel
theorem dX11_bringSeats_61 : decode cX11_bringSeats 61 = .ok (.iload_n 1, 1) := by decide +kernel
theorem dX11_bringSeats_62 : decode cX11_bringSeats 62 = .ok (.iaload, 1) := by decide +kernel
theorem dX11_bringSeats_63 : decode cX11_bringSeats 63 = .ok (.iconst (-1), 1) := by decide +kernel
theorem dX11_bringSeats_64 : decode cX11_bringSeats 64 = .ok (.if_icmp .eq 19, 3) := by decide +kernel
theorem dX11_bringSeats_67 : decode cX11_bringSeats 67 = .ok (.aload_n 0, 1) := by decide +kernel
theorem dX11_bringSeats_68 : decode cX11_bringSeats 68 = .ok (.getfield 79, 3) := by decide +kernel
theorem dX11_bringSeats_71 : decode cX11_bringSeats 71 = .ok (.aload_n 0, 1) := by decide +kernel
theorem dX11_bringSeats_72 : decode cX11_bringSeats 72 = .ok (.getfield 19, 3) := by decide +kernel
theorem dX11_bringSeats_75 : decode cX11_bringSeats 75 = .ok (.getfield 136, 3) := by decide +kernel
theorem dX11_bringSeats_78 : decode cX11_bringSeats 78 = .ok (.iload_n 1, 1) := by decide +kernel
theorem dX11_bringSeats_79 : decode cX11_bringSeats 79 = .ok (.iaload, 1) := by decide +kernel
theorem dX11_bringSeats_80 : decode cX11_bringSeats 80 = .ok (.invokevirtual 307, 3) := by decide +kernel
theorem dX11_bringSeats_83 : decode cX11_bringSeats 83 = .ok (.iinc 1 1, 3) := by decide +kernel
theorem dX11_bringSeats_86 : decode cX11_bringSeats 86 = .ok (.goto (-38), 3) := by decide +kernel
theorem dX11_bringSeats_89 : decode cX11_bringSeats 89 = .ok (.aload_n 0, 1) := by decide +kernel
theorem dX11_bringSeats_90 : decode cX11_bringSeats 90 = .ok (.getfield 79, 3) := by decide +kernel
theorem dX11_bringSeats_93 : decode cX11_bringSeats 93 = .ok (.invokevirtual 310, 3) := by decide +kernel
theorem dX11_bringSeats_96 : decode cX11_bringSeats 96 = .ok (.aload_n 0, 1) := by decide +kernel
theorem dX11_bringSeats_97 : decode cX11_bringSeats 97 = .ok (.getfield 79, 3) := by decide +kernel
theorem dX11_bringSeats_100 : decode cX11_bringSeats 100 = .ok (.invokevirtual 314, 3) := by decide +kernel
theorem dX11_bringSeats_103 : decode cX11_bringSeats 103 = .ok (.return_, 1) := by decide +kernel
theorem dX11_in_0 : decode cX11_in 0 = .ok (.iload_n 0, 1) := by decide +kernel
theorem dX11_in_1 : decode cX11_in 1 = .ok (.iload_n 1, 1) := by decide +kernel
theorem dX11_in_2 : decode cX11_in 2 = .ok (.ishr, 1) := by decide +kernel
theorem dX11_in_3 : decode cX11_in 3 = .ok (.iconst 1, 1) := by decide +kernel
theorem dX11_in_4 : decode cX11_in 4 = .ok (.iand, 1) := by decide +kernel
theorem dX11_in_5 : decode cX11_in 5 = .ok (.ifCond .eq 7, 3) := by decide +kernel
theorem dX11_in_8 : decode cX11_in 8 = .ok (.iconst 1, 1) := by decide +kernel
theorem dX11_in_9 : decode cX11_in 9 = .ok (.goto 4, 3) := by decide +kernel
theorem dX11_in_12 : decode cX11_in 12 = .ok (.iconst 0, 1) := by decide +kernel
theorem dX11_in_13 : decode cX11_in 13 = .ok (.ireturn, 1) := by decide +kernel
theorem dX11_withoutLeast_0 : decode cX11_withoutLeast 0 = .ok (.iload_n 0, 1) := by decide +kernel
theorem dX11_withoutLeast_1 : decode cX11_withoutLeast 1 = .ok (.iload_n 0, 1) := by decide +kernel
theorem dX11_withoutLeast_2 : decode cX11_withoutLeast 2 = .ok (.iconst 1, 1) := by decide +kernel
theorem dX11_withoutLeast_3 : decode cX11_withoutLeast 3 = .ok (.isub, 1) := by decide +kernel
theorem dX11_withoutLeast_4 : decode cX11_withoutLeast 4 = .ok (.iand, 1) := by decide +kernel
theorem dX11_withoutLeast_5 : decode cX11_withoutLeast 5 = .ok (.ireturn, 1) := by decide +kernel
set_option maxRecDepth 20000 in
theorem ggX11_reached_J6_numberOfTrailingZeros_0f7a4 : GoodIn wsX11_reached wsJ6_numberOfTrailingZeros_0f7a4 := goodIn_r _ [4, 5] (by decide +kernel) (by decide +kernel)
set_option maxRecDepth 20000 in
theorem gX11_reached_J6_numberOfTrailingZeros_0f7a4 : GoodIn wsX11_reached (va_wsS RX11 317 yJ6_numberOfTrailingZeros_0f7a4 wsJ6_numberOfTrailingZeros_0f7a4) := goodIn_app (goodIn_of _ (by decide +kernel)) ggX11_reached_J6_numberOfTrailingZeros_0f7a4
set_option maxRecDepth 20000 in
theorem ggX11_reached_X11_withoutLeast : GoodIn wsX11_reached wsX11_withoutLeast := goodIn_r _ [9] (by decide +kernel) (by decide +kernel)
set_option maxRecDepth 20000 in
theorem gX11_reached_X11_withoutLeast : GoodIn wsX11_reached (va_wsS RX11 320 yX11_withoutLeast wsX11_withoutLeast) := goodIn_app (goodIn_of _ (by decide +kernel)) ggX11_reached_X11_withoutLeast
theorem dX11_reached_0 : decode cX11_reached 0 = .ok (.iconst 1, 1) := by decide +kernel
theorem dX11_reached_1 : decode cX11_reached 1 = .ok (.iload_n 1, 1) := by decide +kernel
theorem dX11_reached_2 : decode cX11_reached 2 = .ok (.ishl, 1) := by decide +kernel
theorem dX11_reached_3 : decode cX11_reached 3 = .ok (.istore_n 3, 1) := by decide +kernel
theorem dX11_reached_4 : decode cX11_reached 4 = .ok (.iload_n 3, 1) := by decide +kernel
theorem dX11_reached_5 : decode cX11_reached 5 = .ok (.istore 4, 2) := by decide +kernel
theorem dX11_reached_7 : decode cX11_reached 7 = .ok (.iconst 0, 1) := by decide +kernel
theorem dX11_reached_8 : decode cX11_reached 8 = .ok (.istore 5, 2) := by decide +kernel
theorem dX11_reached_10 : decode cX11_reached 10 = .ok (.iload 5, 2) := by decide +kernel
theorem dX11_reached_12 : decode cX11_reached 12 = .ok (.bipush 12, 2) := by decide +kernel
theorem dX11_reached_14 : decode cX11_reached 14 = .ok (.if_icmp .ge 44, 3) := by decide +kernel
theorem dX11_reached_17 : decode cX11_reached 17 = .ok (.iload 4, 2) := by decide +kernel
theorem dX11_reached_19 : decode cX11_reached 19 = .ok (.ifCond .eq 39, 3) := by decide +kernel
theorem dX11_reached_22 : decode cX11_reached 22 = .ok (.aload_n 0, 1) := by decide +kernel
theorem dX11_reached_23 : decode cX11_reached 23 = .ok (.iload 4, 2) := by decide +kernel
theorem dX11_reached_25 : decode cX11_reached 25 = .ok (.invokestatic 317, 3) := by decide +kernel
theorem dX11_reached_28 : decode cX11_reached 28 = .ok (.iaload, 1) := by decide +kernel
theorem dX11_reached_29 : decode cX11_reached 29 = .ok (.iload_n 2, 1) := by decide +kernel
theorem dX11_reached_30 : decode cX11_reached 30 = .ok (.iand, 1) := by decide +kernel
theorem dX11_reached_31 : decode cX11_reached 31 = .ok (.iload_n 3, 1) := by decide +kernel
theorem dX11_reached_32 : decode cX11_reached 32 = .ok (.iconst (-1), 1) := by decide +kernel
theorem dX11_reached_33 : decode cX11_reached 33 = .ok (.ixor, 1) := by decide +kernel
theorem dX11_reached_34 : decode cX11_reached 34 = .ok (.iand, 1) := by decide +kernel
theorem dX11_reached_35 : decode cX11_reached 35 = .ok (.istore 6, 2) := by decide +kernel
theorem dX11_reached_37 : decode cX11_reached 37 = .ok (.iload_n 3, 1) := by decide +kernel
theorem dX11_reached_38 : decode cX11_reached 38 = .ok (.iload 6, 2) := by decide +kernel
theorem dX11_reached_40 : decode cX11_reached 40 = .ok (.ior, 1) := by decide +kernel
theorem dX11_reached_41 : decode cX11_reached 41 = .ok (.istore_n 3, 1) := by decide +kernel
theorem dX11_reached_42 : decode cX11_reached 42 = .ok (.iload 4, 2) := by decide +kernel
theorem dX11_reached_44 : decode cX11_reached 44 = .ok (.invokestatic 320, 3) := by decide +kernel
theorem dX11_reached_47 : decode cX11_reached 47 = .ok (.iload 6, 2) := by decide +kernel
theorem dX11_reached_49 : decode cX11_reached 49 = .ok (.ior, 1) := by decide +kernel
theorem dX11_reached_50 : decode cX11_reached 50 = .ok (.istore 4, 2) := by decide +kernel
theorem dX11_reached_52 : decode cX11_reached 52 = .ok (.iinc 5 1, 3) := by decide +kernel
theorem dX11_reached_55 : decode cX11_reached 55 = .ok (.goto (-45), 3) := by decide +kernel
theorem dX11_reached_58 : decode cX11_reached 58 = .ok (.iload_n 3, 1) := by decide +kernel
theorem dX11_reached_59 : decode cX11_reached 59 = .ok (.ireturn, 1) := by decide +kernel
theorem dX12_init_0 : decode cX12_init 0 = .ok (.aload_n 0, 1) := by decide +kernel
theorem dX12_init_1 : decode cX12_init 1 = .ok (.invokespecial 1, 3) := by decide +kernel
theorem dX12_init_4 : decode cX12_init 4 = .ok (.aload_n 0, 1) := by decide +kernel
theorem dX12_init_5 : decode cX12_init 5 = .ok (.iconst 5, 1) := by decide +kernel
theorem dX12_init_6 : decode cX12_init 6 = .ok (.newarray .int, 2) := by decide +kernel
theorem dX12_init_8 : decode cX12_init 8 = .ok (.putfield 7, 3) := by decide +kernel
theorem dX12_init_11 : decode cX12_init 11 = .ok (.aload_n 0, 1) := by decide +kernel
theorem dX12_init_12 : decode cX12_init 12 = .ok (.bipush 12, 2) := by decide +kernel
theorem dX12_init_14 : decode cX12_init 14 = .ok (.newarray .int, 2) := by decide +kernel
theorem dX12_init_16 : decode cX12_init 16 = .ok (.putfield 13, 3) := by decide +kernel
theorem dX12_init_19 : decode cX12_init 19 = .ok (.aload_n 0, 1) := by decide +kernel
theorem dX12_init_20 : decode cX12_init 20 = .ok (.bipush 12, 2) := by decide +kernel
theorem dX12_init_22 : decode cX12_init 22 = .ok (.newarray .int, 2) := by decide +kernel
theorem dX12_init_24 : decode cX12_init 24 = .ok (.putfield 16, 3) := by decide +kernel
theorem dX12_init_27 : decode cX12_init 27 = .ok (.aload_n 0, 1) := by decide +kernel
theorem dX12_init_28 : decode cX12_init 28 = .ok (.bipush 12, 2) := by decide +kernel
theorem dX12_init_30 : decode cX12_init 30 = .ok (.newarray .int, 2) := by decide +kernel
theorem dX12_init_32 : decode cX12_init 32 = .ok (.putfield 19, 3) := by decide +kernel
theorem dX12_init_35 : decode cX12_init 35 = .ok (.aload_n 0, 1) := by decide +kernel
theorem dX12_init_36 : decode cX12_init 36 = .ok (.bipush 12, 2) := by decide +kernel
theorem dX12_init_38 : decode cX12_init 38 = .ok (.newarray .int, 2) := by decide +kernel
theorem dX12_init_40 : decode cX12_init 40 = .ok (.putfield 22, 3) := by decide +kernel
theorem dX12_init_43 : decode cX12_init 43 = .ok (.aload_n 0, 1) := by decide +kernel
theorem dX12_init_44 : decode cX12_init 44 = .ok (.bipush 12, 2) := by decide +kernel
theorem dX12_init_46 : decode cX12_init 46 = .ok (.newarray .int, 2) := by decide +kernel
theorem dX12_init_48 : decode cX12_init 48 = .ok (.putfield 25, 3) := by decide +kernel
theorem dX12_init_51 : decode cX12_init 51 = .ok (.aload_n 0, 1) := by decide +kernel
theorem dX12_init_52 : decode cX12_init 52 = .ok (.bipush (-9), 2) := by decide +kernel
theorem dX12_init_54 : decode cX12_init 54 = .ok (.putfield 28, 3) := by decide +kernel
theorem dX12_init_57 : decode cX12_init 57 = .ok (.aload_n 0, 1) := by decide +kernel
theorem dX12_init_58 : decode cX12_init 58 = .ok (.bipush 12, 2) := by decide +kernel
theorem dX12_init_60 : decode cX12_init 60 = .ok (.newarray .int, 2) := by decide +kernel
theorem dX12_init_62 : decode cX12_init 62 = .ok (.putfield 32, 3) := by decide +kernel
theorem dX12_init_65 : decode cX12_init 65 = .ok (.aload_n 0, 1) := by decide +kernel
theorem dX12_init_66 : decode cX12_init 66 = .ok (.bipush 12, 2) := by decide +kernel
theorem dX12_init_68 : decode cX12_init 68 = .ok (.newarray .int, 2) := by decide +kernel
theorem dX12_init_70 : decode cX12_init 70 = .ok (.putfield 35, 3) := by decide +kernel
theorem dX12_init_73 : decode cX12_init 73 = .ok (.aload_n 0, 1) := by decide +kernel
theorem dX12_init_74 : decode cX12_init 74 = .ok (.ldc 38, 2) := by decide +kernel
theorem dX12_init_76 : decode cX12_init 76 = .ok (.newarray .int, 2) := by decide +kernel
theorem dX12_init_78 : decode cX12_init 78 = .ok (.putfield 39, 3) := by decide +kernel
theorem dX12_init_81 : decode cX12_init 81 = .ok (.aload_n 0, 1) := by decide +kernel
theorem dX12_init_82 : decode cX12_init 82 = .ok (.sipush 4096, 3) := by decide +kernel
theorem dX12_init_85 : decode cX12_init 85 = .ok (.newarray .int, 2) := by decide +kernel
theorem dX12_init_87 : decode cX12_init 87 = .ok (.putfield 42, 3) := by decide +kernel
theorem dX12_init_90 : decode cX12_init 90 = .ok (.aload_n 0, 1) := by decide +kernel
theorem dX12_init_91 : decode cX12_init 91 = .ok (.bipush 100, 2) := by decide +kernel
theorem dX12_init_93 : decode cX12_init 93 = .ok (.newarray .int, 2) := by decide +kernel
theorem dX12_init_95 : decode cX12_init 95 = .ok (.putfield 45, 3) := by decide +kernel
theorem dX12_init_98 : decode cX12_init 98 = .ok (.aload_n 0, 1) := by decide +kernel
theorem dX12_init_99 : decode cX12_init 99 = .ok (.bipush 12, 2) := by decide +kernel
theorem dX12_init_101 : decode cX12_init 101 = .ok (.newarray .int, 2) := by decide +kernel
theorem dX12_init_103 : decode cX12_init 103 = .ok (.putfield 48, 3) := by decide +kernel
theorem dX12_init_106 : decode cX12_init 106 = .ok (.aload_n 0, 1) := by decide +kernel
theorem dX12_init_107 : decode cX12_init 107 = .ok (.bipush 100, 2) := by decide +kernel
theorem dX12_init_109 : decode cX12_init 109 = .ok (.newarray .int, 2) := by decide +kernel
theorem dX12_init_111 : decode cX12_init 111 = .ok (.putfield 51, 3) := by decide +kernel
theorem dX12_init_114 : decode cX12_init 114 = .ok (.aload_n 0, 1) := by decide +kernel
theorem dX12_init_115 : decode cX12_init 115 = .ok (.bipush 12, 2) := by decide +kernel
theorem dX12_init_117 : decode cX12_init 117 = .ok (.newarray .int, 2) := by decide +kernel
theorem dX12_init_119 : decode cX12_init 119 = .ok (.putfield 54, 3) := by decide +kernel
theorem dX12_init_122 : decode cX12_init 122 = .ok (.aload_n 0, 1) := by decide +kernel
theorem dX12_init_123 : decode cX12_init 123 = .ok (.ldc 38, 2) := by decide +kernel
theorem dX12_init_125 : decode cX12_init 125 = .ok (.newarray .boolean, 2) := by decide +kernel
theorem dX12_init_127 : decode cX12_init 127 = .ok (.putfield 57, 3) := by decide +kernel
theorem dX12_init_130 : decode cX12_init 130 = .ok (.aload_n 0, 1) := by decide +kernel
theorem dX12_init_131 : decode cX12_init 131 = .ok (.ldc 38, 2) := by decide +kernel
theorem dX12_init_133 : decode cX12_init 133 = .ok (.newarray .int, 2) := by decide +kernel
theorem dX12_init_135 : decode cX12_init 135 = .ok (.putfield 61, 3) := by decide +kernel
theorem dX12_init_138 : decode cX12_init 138 = .ok (.aload_n 0, 1) := by decide +kernel
theorem dX12_init_139 : decode cX12_init 139 = .ok (.bipush 12, 2) := by decide +kernel
theorem dX12_init_141 : decode cX12_init 141 = .ok (.newarray .int, 2) := by decide +kernel
theorem dX12_init_143 : decode cX12_init 143 = .ok (.putfield 64, 3) := by decide +kernel
theorem dX12_init_146 : decode cX12_init 146 = .ok (.aload_n 0, 1) := by decide +kernel
theorem dX12_init_147 : decode cX12_init 147 = .ok (.bipush 12, 2) := by decide +kernel
theorem dX12_init_149 : decode cX12_init 149 = .ok (.newarray .int, 2) := by decide +kernel
theorem dX12_init_151 : decode cX12_init 151 = .ok (.putfield 67, 3) := by decide +kernel
theorem dX12_init_154 : decode cX12_init 154 = .ok (.iconst 0, 1) := by decide +kernel
theorem dX12_init_155 : decode cX12_init 155 = .ok (.istore_n 1, 1) := by decide +kernel
theorem dX12_init_156 : decode cX12_init 156 = .ok (.iload_n 1, 1) := by decide +kernel
theorem dX12_init_157 : decode cX12_init 157 = .ok (.bipush 12, 2) := by decide +kernel
theorem dX12_init_159 : decode cX12_init 159 = .ok (.if_icmp .ge 17, 3) := by decide +kernel
theorem dX12_init_162 : decode cX12_init 162 = .ok (.aload_n 0, 1) := by decide +kernel
theorem dX12_init_163 : decode cX12_init 163 = .ok (.getfield 16, 3) := by decide +kernel
theorem dX12_init_166 : decode cX12_init 166 = .ok (.iload_n 1, 1) := by decide +kernel
theorem dX12_init_167 : decode cX12_init 167 = .ok (.bipush (-9), 2) := by decide +kernel
theorem dX12_init_169 : decode cX12_init 169 = .ok (.iastore, 1) := by decide +kernel
theorem dX12_init_170 : decode cX12_init 170 = .ok (.iinc 1 1, 3) := by decide +kernel
theorem dX12_init_173 : decode cX12_init 173 = .ok (.goto (-17), 3) := by decide +kernel
theorem dX12_init_176 : decode cX12_init 176 = .ok (.return_, 1) := by decide +kernel
theorem dX12_in_0 : decode cX12_in 0 = .ok (.iload_n 0, 1) := by decide +kernel
theorem dX12_in_1 : decode cX12_in 1 = .ok (.iload_n 1, 1) := by decide +kernel
theorem dX12_in_2 : decode cX12_in 2 = .ok (.if_icmp .lt 12, 3) := by decide +kernel
theorem dX12_in_5 : decode cX12_in 5 = .ok (.iload_n 0, 1) := by decide +kernel
theorem dX12_in_6 : decode cX12_in 6 = .ok (.iload_n 2, 1) := by decide +kernel
theorem dX12_in_7 : decode cX12_in 7 = .ok (.if_icmp .gt 7, 3) := by decide +kernel
theorem dX12_in_10 : decode cX12_in 10 = .ok (.iconst 1, 1) := by decide +kernel
theorem dX12_in_11 : decode cX12_in 11 = .ok (.goto 4, 3) := by decide +kernel
theorem dX12_in_14 : decode cX12_in 14 = .ok (.iconst 0, 1) := by decide +kernel
theorem dX12_in_15 : decode cX12_in 15 = .ok (.ireturn, 1) := by decide +kernel
theorem dX12_meets_0 : decode cX12_meets 0 = .ok (.aload_n 0, 1) := by decide +kernel
theorem dX12_meets_1 : decode cX12_meets 1 = .ok (.iload_n 1, 1) := by decide +kernel
theorem dX12_meets_2 : decode cX12_meets 2 = .ok (.putfield 70, 3) := by decide +kernel
theorem dX12_meets_5 : decode cX12_meets 5 = .ok (.aload_n 0, 1) := by decide +kernel
theorem dX12_meets_6 : decode cX12_meets 6 = .ok (.getfield 7, 3) := by decide +kernel
theorem dX12_meets_9 : decode cX12_meets 9 = .ok (.iload_n 1, 1) := by decide +kernel
theorem dX12_meets_10 : decode cX12_meets 10 = .ok (.dup2, 1) := by decide +kernel
theorem dX12_meets_11 : decode cX12_meets 11 = .ok (.iaload, 1) := by decide +kernel
theorem dX12_meets_12 : decode cX12_meets 12 = .ok (.iconst 1, 1) := by decide +kernel
theorem dX12_meets_13 : decode cX12_meets 13 = .ok (.iadd, 1) := by decide +kernel
theorem dX12_meets_14 : decode cX12_meets 14 = .ok (.iastore, 1) := by decide +kernel
theorem dX12_meets_15 : decode cX12_meets 15 = .ok (.bipush (-3), 2) := by decide +kernel
theorem dX12_meets_17 : decode cX12_meets 17 = .ok (.ireturn, 1) := by decide +kernel
theorem dX12_bits_0 : decode cX12_bits 0 = .ok (.iconst 0, 1) := by decide +kernel
theorem dX12_bits_1 : decode cX12_bits 1 = .ok (.istore_n 1, 1) := by decide +kernel
theorem dX12_bits_2 : decode cX12_bits 2 = .ok (.iconst 0, 1) := by decide +kernel
theorem dX12_bits_3 : decode cX12_bits 3 = .ok (.istore_n 2, 1) := by decide +kernel
theorem dX12_bits_4 : decode cX12_bits 4 = .ok (.iload_n 2, 1) := by decide +kernel
theorem dX12_bits_5 : decode cX12_bits 5 = .ok (.bipush 13, 2) := by decide +kernel
theorem dX12_bits_7 : decode cX12_bits 7 = .ok (.if_icmp .ge 17, 3) := by decide +kernel
theorem dX12_bits_10 : decode cX12_bits 10 = .ok (.iload_n 1, 1) := by decide +kernel
theorem dX12_bits_11 : decode cX12_bits 11 = .ok (.iload_n 0, 1) := by decide +kernel
theorem dX12_bits_12 : decode cX12_bits 12 = .ok (.iload_n 2, 1) := by decide +kernel
theorem dX12_bits_13 : decode cX12_bits 13 = .ok (.ishr, 1) := by decide +kernel
theorem dX12_bits_14 : decode cX12_bits 14 = .ok (.iconst 1, 1) := by decide +kernel
theorem dX12_bits_15 : decode cX12_bits 15 = .ok (.iand, 1) := by decide +kernel
theorem dX12_bits_16 : decode cX12_bits 16 = .ok (.iadd, 1) := by decide +kernel
theorem dX12_bits_17 : decode cX12_bits 17 = .ok (.istore_n 1, 1) := by decide +kernel
theorem dX12_bits_18 : decode cX12_bits 18 = .ok (.iinc 2 1, 3) := by decide +kernel
theorem dX12_bits_21 : decode cX12_bits 21 = .ok (.goto (-17), 3) := by decide +kernel
theorem dX12_bits_24 : decode cX12_bits 24 = .ok (.iload_n 1, 1) := by decide +kernel
theorem dX12_bits_25 : decode cX12_bits 25 = .ok (.ireturn, 1) := by decide +kernel
theorem dX12_has_0 : decode cX12_has 0 = .ok (.iload_n 0, 1) := by decide +kernel
theorem dX12_has_1 : decode cX12_has 1 = .ok (.iload_n 1, 1) := by decide +kernel
theorem dX12_has_2 : decode cX12_has 2 = .ok (.ishr, 1) := by decide +kernel
theorem dX12_has_3 : decode cX12_has 3 = .ok (.iconst 1, 1) := by decide +kernel
theorem dX12_has_4 : decode cX12_has 4 = .ok (.iand, 1) := by decide +kernel
theorem dX12_has_5 : decode cX12_has 5 = .ok (.iconst 1, 1) := by decide +kernel
theorem dX12_has_6 : decode cX12_has 6 = .ok (.if_icmp .ne 7, 3) := by decide +kernel
theorem dX12_has_9 : decode cX12_has 9 = .ok (.iconst 1, 1) := by decide +kernel
theorem dX12_has_10 : decode cX12_has 10 = .ok (.goto 4, 3) := by decide +kernel
theorem dX12_has_13 : decode cX12_has 13 = .ok (.iconst 0, 1) := by decide +kernel
theorem dX12_has_14 : decode cX12_has 14 = .ok (.ireturn, 1) := by decide +kernel
theorem dX12_all_0 : decode cX12_all 0 = .ok (.iconst 1, 1) := by decide +kernel
theorem dX12_all_1 : decode cX12_all 1 = .ok (.aload_n 0, 1) := by decide +kernel
theorem dX12_all_2 : decode cX12_all 2 = .ok (.getfield 73, 3) := by decide +kernel
theorem dX12_all_5 : decode cX12_all 5 = .ok (.ishl, 1) := by decide +kernel
theorem dX12_all_6 : decode cX12_all 6 = .ok (.iconst 1, 1) := by decide +kernel
theorem dX12_all_7 : decode cX12_all 7 = .ok (.isub, 1) := by decide +kernel
theorem dX12_all_8 : decode cX12_all 8 = .ok (.ireturn, 1) := by decide +kernel
set_option maxRecDepth 20000 in
theorem ggX12_isNode_X12_in : GoodIn wsX12_isNode wsX12_in := goodIn_r _ [5] (by decide +kernel) (by decide +kernel)
set_option maxRecDepth 20000 in
theorem gX12_isNode_X12_in : GoodIn wsX12_isNode (va_wsS RX12 76 yX12_in wsX12_in) := goodIn_app (goodIn_of _ (by decide +kernel)) ggX12_isNode_X12_in
theorem dX12_isNode_0 : decode cX12_isNode 0 = .ok (.iload_n 1, 1) := by decide +kernel
theorem dX12_isNode_1 : decode cX12_isNode 1 = .ok (.iconst 0, 1) := by decide +kernel
theorem dX12_isNode_2 : decode cX12_isNode 2 = .ok (.aload_n 0, 1) := by decide +kernel
theorem dX12_isNode_3 : decode cX12_isNode 3 = .ok (.getfield 73, 3) := by decide +kernel
theorem dX12_isNode_6 : decode cX12_isNode 6 = .ok (.iconst 1, 1) := by decide +kernel
theorem dX12_isNode_7 : decode cX12_isNode 7 = .ok (.isub, 1) := by decide +kernel
theorem dX12_isNode_8 : decode cX12_isNode 8 = .ok (.invokestatic 76, 3) := by decide +kernel
theorem dX12_isNode_11 : decode cX12_isNode 11 = .ok (.ireturn, 1) := by decide +kernel
theorem dX12_changed_0 : decode cX12_changed 0 = .ok (.aload_n 0, 1) := by decide +kernel
theorem dX12_changed_1 : decode cX12_changed 1 = .ok (.bipush (-9), 2) := by decide +kernel
theorem dX12_changed_3 : decode cX12_changed 3 = .ok (.putfield 28, 3) := by decide +kernel
theorem dX12_changed_6 : decode cX12_changed 6 = .ok (.return_, 1) := by decide +kernel
set_option maxRecDepth 20000 in
theorem ggX12_nodes_X12_in : GoodIn wsX12_nodes wsX12_in := goodIn_r _ [7] (by decide +kernel) (by decide +kernel)
set_option maxRecDepth 20000 in
theorem gX12_nodes_X12_in : GoodIn wsX12_nodes (va_wsS RX12 76 yX12_in wsX12_in) := goodIn_app (goodIn_of _ (by decide +kernel)) ggX12_nodes_X12_in
set_option maxRecDepth 20000 in
theorem ggX12_nodes_X12_changed : GoodIn wsX12_nodes wsX12_changed := goodIn_r _ [11, 12, 13, 14, 15, 16, 17, 18, 19, 20, 21, 22, 23, 24, 25, 26, 27, 28, 29, 30, 31, 32, 33, 34, 35, 36, 37, 38, 39, 40, 41] (by decide +kernel) (by decide +kernel)
set_option maxRecDepth 20000 in
theorem gX12_nodes_X12_changed : GoodIn wsX12_nodes (wsV RX12 83 RX12 yX12_changed wsX12_changed) := goodIn_app (goodIn_of _ (by decide +kernel)) ggX12_nodes_X12_changed
theorem dX12_nodes_0 : decode cX12_nodes 0 = .ok (.iload_n 1, 1) := by decide +kernel
theorem dX12_nodes_1 : decode cX12_nodes 1 = .ok (.iconst 0, 1) := by decide +kernel
theorem dX12_nodes_2 : decode cX12_nodes 2 = .ok (.bipush 12, 2) := by decide +kernel
theorem dX12_nodes_4 : decode cX12_nodes 4 = .ok (.invokestatic 76, 3) := by decide +kernel
theorem dX12_nodes_7 : decode cX12_nodes 7 = .ok (.ifCond .ne 5, 3) := by decide +kernel
theorem dX12_nodes_10 : decode cX12_nodes 10 = .ok (.iconst (-1), 1) := by decide +kernel
theorem dX12_nodes_11 : decode cX12_nodes 11 = .ok (.ireturn, 1) := by decide +kernel
theorem dX12_nodes_12 : decode cX12_nodes 12 = .ok (.aload_n 0, 1) := by decide +kernel
theorem dX12_nodes_13 : decode cX12_nodes 13 = .ok (.iload_n 1, 1) := by decide +kernel
theorem dX12_nodes_14 : decode cX12_nodes 14 = .ok (.putfield 73, 3) := by decide +kernel
theorem dX12_nodes_17 : decode cX12_nodes 17 = .ok (.iconst 0, 1) := by decide +kernel
theorem dX12_nodes_18 : decode cX12_nodes 18 = .ok (.istore_n 2, 1) := by decide +kernel
theorem dX12_nodes_19 : decode cX12_nodes 19 = .ok (.iload_n 2, 1) := by decide +kernel
theorem dX12_nodes_20 : decode cX12_nodes 20 = .ok (.bipush 12, 2) := by decide +kernel
theorem dX12_nodes_22 : decode cX12_nodes 22 = .ok (.if_icmp .ge 16, 3) := by decide +kernel
theorem dX12_nodes_25 : decode cX12_nodes 25 = .ok (.aload_n 0, 1) := by decide +kernel
theorem dX12_nodes_26 : decode cX12_nodes 26 = .ok (.getfield 13, 3) := by decide +kernel
theorem dX12_nodes_29 : decode cX12_nodes 29 = .ok (.iload_n 2, 1) := by decide +kernel
theorem dX12_nodes_30 : decode cX12_nodes 30 = .ok (.iconst 0, 1) := by decide +kernel
theorem dX12_nodes_31 : decode cX12_nodes 31 = .ok (.iastore, 1) := by decide +kernel
theorem dX12_nodes_32 : decode cX12_nodes 32 = .ok (.iinc 2 1, 3) := by decide +kernel
theorem dX12_nodes_35 : decode cX12_nodes 35 = .ok (.goto (-16), 3) := by decide +kernel
theorem dX12_nodes_38 : decode cX12_nodes 38 = .ok (.aload_n 0, 1) := by decide +kernel
theorem dX12_nodes_39 : decode cX12_nodes 39 = .ok (.iconst 0, 1) := by decide +kernel
theorem dX12_nodes_40 : decode cX12_nodes 40 = .ok (.putfield 80, 3) := by decide +kernel
theorem dX12_nodes_43 : decode cX12_nodes 43 = .ok (.aload_n 0, 1) := by decide +kernel
theorem dX12_nodes_44 : decode cX12_nodes 44 = .ok (.invokevirtual 83, 3) := by decide +kernel
theorem dX12_nodes_47 : decode cX12_nodes 47 = .ok (.aload_n 0, 1) := by decide +kernel
theorem dX12_nodes_48 : decode cX12_nodes 48 = .ok (.getfield 73, 3) := by decide +kernel
theorem dX12_nodes_51 : decode cX12_nodes 51 = .ok (.ireturn, 1) := by decide +kernel
theorem dX12_tie_0 : decode cX12_tie 0 = .ok (.aload_n 0, 1) := by decide +kernel
theorem dX12_tie_1 : decode cX12_tie 1 = .ok (.getfield 13, 3) := by decide +kernel
theorem dX12_tie_4 : decode cX12_tie 4 = .ok (.iload_n 1, 1) := by decide +kernel
theorem dX12_tie_5 : decode cX12_tie 5 = .ok (.dup2, 1) := by decide +kernel
theorem dX12_tie_6 : decode cX12_tie 6 = .ok (.iaload, 1) := by decide +kernel
theorem dX12_tie_7 : decode cX12_tie 7 = .ok (.iconst 1, 1) := by decide +kernel
theorem dX12_tie_8 : decode cX12_tie 8 = .ok (.iload_n 2, 1) := by decide +kernel
theorem dX12_tie_9 : decode cX12_tie 9 = .ok (.ishl, 1) := by decide +kernel
theorem dX12_tie_10 : decode cX12_tie 10 = .ok (.ior, 1) := by decide +kernel
theorem dX12_tie_11 : decode cX12_tie 11 = .ok (.iastore, 1) := by decide +kernel
theorem dX12_tie_12 : decode cX12_tie 12 = .ok (.aload_n 0, 1) := by decide +kernel
theorem dX12_tie_13 : decode cX12_tie 13 = .ok (.getfield 13, 3) := by decide +kernel
theorem dX12_tie_16 : decode cX12_tie 16 = .ok (.iload_n 2, 1) := by decide +kernel
theorem dX12_tie_17 : decode cX12_tie 17 = .ok (.dup2, 1) := by decide +kernel
theorem dX12_tie_18 : decode cX12_tie 18 = .ok (.iaload, 1) := by decide +kernel
theorem dX12_tie_19 : decode cX12_tie 19 = .ok (.iconst 1, 1) := by decide +kernel
theorem dX12_tie_20 : decode cX12_tie 20 = .ok (.iload_n 1, 1) := by decide +kernel
theorem dX12_tie_21 : decode cX12_tie 21 = .ok (.ishl, 1) := by decide +kernel
theorem dX12_tie_22 : decode cX12_tie 22 = .ok (.ior, 1) := by decide +kernel
theorem dX12_tie_23 : decode cX12_tie 23 = .ok (.iastore, 1) := by decide +kernel
theorem dX12_tie_24 : decode cX12_tie 24 = .ok (.return_, 1) := by decide +kernel
set_option maxRecDepth 20000 in
theorem ggX12_join_X12_isNode : GoodIn wsX12_join wsX12_isNode := goodIn_r _ [6, 7, 8, 9, 5, 10, 23, 24, 25, 26, 27, 28, 29, 30, 31, 32, 33, 34, 35, 36, 37, 38, 39, 40, 41, 42, 43, 44, 45, 46, 47, 48, 49, 50, 51] (by decide +kernel) (by decide +kernel)
set_option maxRecDepth 20000 in
theorem gX12_join_X12_isNode : GoodIn wsX12_join (wsV RX12 86 RX12 yX12_isNode wsX12_isNode) := goodIn_app (goodIn_of _ (by decide +kernel)) ggX12_join_X12_isNode
set_option maxRecDepth 20000 in
theorem ggX12_join_X12_has : GoodIn wsX12_join wsX12_has := goodIn_r _ [13] (by decide +kernel) (by decide +kernel)
set_option maxRecDepth 20000 in
theorem gX12_join_X12_has : GoodIn wsX12_join (va_wsS RX12 90 yX12_has wsX12_has) := goodIn_app (goodIn_of _ (by decide +kernel)) ggX12_join_X12_has
set_option maxRecDepth 20000 in
theorem ggX12_join_X12_tie : GoodIn wsX12_join wsX12_tie := goodIn_r _ [17, 1, 23, 24, 25, 26, 27, 28, 29, 30, 31, 32, 33, 34, 35, 36, 37, 38, 39, 40, 41, 42, 43, 44, 45, 46, 47, 48, 49, 50, 51] (by decide +kernel) (by decide +kernel)
set_option maxRecDepth 20000 in
theorem gX12_join_X12_tie : GoodIn wsX12_join (wsV RX12 94 RX12 yX12_tie wsX12_tie) := goodIn_app (goodIn_of _ (by decide +kernel)) ggX12_join_X12_tie
set_option maxRecDepth 20000 in
theorem ggX12_join_X12_changed : GoodIn wsX12_join wsX12_changed := goodIn_r _ [21, 22, 23, 24, 25, 26, 27, 28, 29, 30, 31, 32, 33, 34, 35, 36, 37, 38, 39, 40, 41, 42, 43, 44, 45, 46, 47, 48, 49, 50, 51] (by decide +kernel) (by decide +kernel)
set_option maxRecDepth 20000 in
theorem gX12_join_X12_changed : GoodIn wsX12_join (wsV RX12 83 RX12 yX12_changed wsX12_changed) := goodIn_app (goodIn_of _ (by decide +kernel)) ggX12_join_X12_changed
theorem dX12_join_0 : decode cX12_join 0 = .ok (.aload_n 0, 1) := by decide +kernel
theorem dX12_join_1 : decode cX12_join 1 = .ok (.iload_n 1, 1) := by decide +kernel
theorem dX12_join_2 : decode cX12_join 2 = .ok (.invokevirtual 86, 3) := by decide +kernel
theorem dX12_join_5 : decode cX12_join 5 = .ok (.ifCond .eq 16, 3) := by decide +kernel
theorem dX12_join_8 : decode cX12_join 8 = .ok (.aload_n 0, 1) := by decide +kernel
theorem dX12_join_9 : decode cX12_join 9 = .ok (.iload_n 2, 1) := by decide +kernel
theorem dX12_join_10 : decode cX12_join 10 = .ok (.invokevirtual 86, 3) := by decide +kernel
theorem dX12_join_13 : decode cX12_join 13 = .ok (.ifCond .eq 8, 3) := by decide +kernel
theorem dX12_join_16 : decode cX12_join 16 = .ok (.iload_n 1, 1) := by decide +kernel
theorem dX12_join_17 : decode cX12_join 17 = .ok (.iload_n 2, 1) := by decide +kernel
theorem dX12_join_18 : decode cX12_join 18 = .ok (.if_icmp .ne 5, 3) := by decide +kernel
theorem dX12_join_21 : decode cX12_join 21 = .ok (.iconst (-1), 1) := by decide +kernel
theorem dX12_join_22 : decode cX12_join 22 = .ok (.ireturn, 1) := by decide +kernel
theorem dX12_join_23 : decode cX12_join 23 = .ok (.aload_n 0, 1) := by decide +kernel
theorem dX12_join_24 : decode cX12_join 24 = .ok (.getfield 13, 3) := by decide +kernel
theorem dX12_join_27 : decode cX12_join 27 = .ok (.iload_n 1, 1) := by decide +kernel
theorem dX12_join_28 : decode cX12_join 28 = .ok (.iaload, 1) := by decide +kernel
theorem dX12_join_29 : decode cX12_join 29 = .ok (.iload_n 2, 1) := by decide +kernel
theorem dX12_join_30 : decode cX12_join 30 = .ok (.invokestatic 90, 3) := by decide +kernel
theorem dX12_join_33 : decode cX12_join 33 = .ok (.ifCond .eq 7, 3) := by decide +kernel
theorem dX12_join_36 : decode cX12_join 36 = .ok (.iconst 1, 1) := by decide +kernel
theorem dX12_join_37 : decode cX12_join 37 = .ok (.goto 4, 3) := by decide +kernel
theorem dX12_join_40 : decode cX12_join 40 = .ok (.iconst 0, 1) := by decide +kernel
theorem dX12_join_41 : decode cX12_join 41 = .ok (.istore 4, 2) := by decide +kernel
theorem dX12_join_43 : decode cX12_join 43 = .ok (.aload_n 0, 1) := by decide +kernel
theorem dX12_join_44 : decode cX12_join 44 = .ok (.iload_n 1, 1) := by decide +kernel
theorem dX12_join_45 : decode cX12_join 45 = .ok (.iload_n 2, 1) := by decide +kernel
theorem dX12_join_46 : decode cX12_join 46 = .ok (.invokevirtual 94, 3) := by decide +kernel
theorem dX12_join_49 : decode cX12_join 49 = .ok (.iload_n 3, 1) := by decide +kernel
theorem dX12_join_50 : decode cX12_join 50 = .ok (.ifCond .ne 31, 3) := by decide +kernel
theorem dX12_join_53 : decode cX12_join 53 = .ok (.aload_n 0, 1) := by decide +kernel
theorem dX12_join_54 : decode cX12_join 54 = .ok (.getfield 13, 3) := by decide +kernel
theorem dX12_join_57 : decode cX12_join 57 = .ok (.iload_n 1, 1) := by decide +kernel
theorem dX12_join_58 : decode cX12_join 58 = .ok (.dup2, 1) := by decide +kernel
theorem dX12_join_59 : decode cX12_join 59 = .ok (.iaload, 1) := by decide +kernel
theorem dX12_join_60 : decode cX12_join 60 = .ok (.iconst 1, 1) := by decide +kernel
theorem dX12_join_61 : decode cX12_join 61 = .ok (.iload_n 2, 1) := by decide +kernel
theorem dX12_join_62 : decode cX12_join 62 = .ok (.ishl, 1) := by decide +kernel
theorem dX12_join_63 : decode cX12_join 63 = .ok (.iconst (-1), 1) := by decide +kernel
theorem dX12_join_64 : decode cX12_join 64 = .ok (.ixor, 1) := by decide +kernel
theorem dX12_join_65 : decode cX12_join 65 = .ok (.iand, 1) := by decide +kernel
theorem dX12_join_66 : decode cX12_join 66 = .ok (.iastore, 1) := by decide +kernel
theorem dX12_join_67 : decode cX12_join 67 = .ok (.aload_n 0, 1) := by decide +kernel
theorem dX12_join_68 : decode cX12_join 68 = .ok (.getfield 13, 3) := by decide +kernel
theorem dX12_join_71 : decode cX12_join 71 = .ok (.iload_n 2, 1) := by decide +kernel
theorem dX12_join_72 : decode cX12_join 72 = .ok (.dup2, 1) := by decide +kernel
theorem dX12_join_73 : decode cX12_join 73 = .ok (.iaload, 1) := by decide +kernel
theorem dX12_join_74 : decode cX12_join 74 = .ok (.iconst 1, 1) := by decide +kernel
theorem dX12_join_75 : decode cX12_join 75 = .ok (.iload_n 1, 1) := by decide +kernel
theorem dX12_join_76 : decode cX12_join 76 = .ok (.ishl, 1) := by decide +kernel
theorem dX12_join_77 : decode cX12_join 77 = .ok (.iconst (-1), 1) := by decide +kernel
theorem dX12_join_78 : decode cX12_join 78 = .ok (.ixor, 1) := by decide +kernel
theorem dX12_join_79 : decode cX12_join 79 = .ok (.iand, 1) := by decide +kernel
theorem dX12_join_80 : decode cX12_join 80 = .ok (.iastore, 1) := by decide +kernel
theorem dX12_join_81 : decode cX12_join 81 = .ok (.aload_n 0, 1) := by decide +kernel
theorem dX12_join_82 : decode cX12_join 82 = .ok (.invokevirtual 83, 3) := by decide +kernel
theorem dX12_join_85 : decode cX12_join 85 = .ok (.iload 4, 2) := by decide +kernel
theorem dX12_join_87 : decode cX12_join 87 = .ok (.ireturn, 1) := by decide +kernel
set_option maxRecDepth 20000 in
theorem ggX12_joined_X12_isNode : GoodIn wsX12_joined wsX12_isNode := goodIn_r _ [6, 7, 8, 9, 5, 10, 11, 12, 13, 14, 15, 16, 17, 18, 19, 20, 21, 22, 23, 24, 25, 26, 27, 28, 29, 30, 31, 32, 33, 34, 35, 36, 37, 38, 39] (by decide +kernel) (by decide +kernel)
set_option maxRecDepth 20000 in
theorem gX12_joined_X12_isNode : GoodIn wsX12_joined (wsV RX12 86 RX12 yX12_isNode wsX12_isNode) := goodIn_app (goodIn_of _ (by decide +kernel)) ggX12_joined_X12_isNode
theorem dX12_joined_0 : decode cX12_joined 0 = .ok (.aload_n 0, 1) := by decide +kernel
theorem dX12_joined_1 : decode cX12_joined 1 = .ok (.iload_n 1, 1) := by decide +kernel
theorem dX12_joined_2 : decode cX12_joined 2 = .ok (.invokevirtual 86, 3) := by decide +kernel
theorem dX12_joined_5 : decode cX12_joined 5 = .ok (.ifCond .eq 12, 3) := by decide +kernel
theorem dX12_joined_8 : decode cX12_joined 8 = .ok (.aload_n 0, 1) := by decide +kernel
theorem dX12_joined_9 : decode cX12_joined 9 = .ok (.getfield 13, 3) := by decide +kernel
theorem dX12_joined_12 : decode cX12_joined 12 = .ok (.iload_n 1, 1) := by decide +kernel
theorem dX12_joined_13 : decode cX12_joined 13 = .ok (.iaload, 1) := by decide +kernel
theorem dX12_joined_14 : decode cX12_joined 14 = .ok (.goto 4, 3) := by decide +kernel
theorem dX12_joined_17 : decode cX12_joined 17 = .ok (.iconst (-1), 1) := by decide +kernel
theorem dX12_joined_18 : decode cX12_joined 18 = .ok (.ireturn, 1) := by decide +kernel
set_option maxRecDepth 20000 in
theorem ggX12_isClique_X12_has : GoodIn wsX12_isClique wsX12_has := goodIn_r _ [6] (by decide +kernel) (by decide +kernel)
set_option maxRecDepth 20000 in
theorem gX12_isClique_X12_has : GoodIn wsX12_isClique (va_wsS RX12 90 yX12_has wsX12_has) := goodIn_app (goodIn_of _ (by decide +kernel)) ggX12_isClique_X12_has
theorem dX12_isClique_0 : decode cX12_isClique 0 = .ok (.iconst 1, 1) := by decide +kernel
theorem dX12_isClique_1 : decode cX12_isClique 1 = .ok (.istore_n 2, 1) := by decide +kernel
theorem dX12_isClique_2 : decode cX12_isClique 2 = .ok (.iconst 0, 1) := by decide +kernel
theorem dX12_isClique_3 : decode cX12_isClique 3 = .ok (.istore_n 3, 1) := by decide +kernel
theorem dX12_isClique_4 : decode cX12_isClique 4 = .ok (.iload_n 3, 1) := by decide +kernel
theorem dX12_isClique_5 : decode cX12_isClique 5 = .ok (.aload_n 0, 1) := by decide +kernel
theorem dX12_isClique_6 : decode cX12_isClique 6 = .ok (.getfield 73, 3) := by decide +kernel
theorem dX12_isClique_9 : decode cX12_isClique 9 = .ok (.if_icmp .ge 43, 3) := by decide +kernel
theorem dX12_isClique_12 : decode cX12_isClique 12 = .ok (.iload_n 2, 1) := by decide +kernel
theorem dX12_isClique_13 : decode cX12_isClique 13 = .ok (.ifCond .eq 31, 3) := by decide +kernel
theorem dX12_isClique_16 : decode cX12_isClique 16 = .ok (.iload_n 1, 1) := by decide +kernel
theorem dX12_isClique_17 : decode cX12_isClique 17 = .ok (.iload_n 3, 1) := by decide +kernel
theorem dX12_isClique_18 : decode cX12_isClique 18 = .ok (.invokestatic 90, 3) := by decide +kernel
theorem dX12_isClique_21 : decode cX12_isClique 21 = .ok (.ifCond .eq 19, 3) := by decide +kernel
theorem dX12_isClique_24 : decode cX12_isClique 24 = .ok (.iload_n 1, 1) := by decide +kernel
theorem dX12_isClique_25 : decode cX12_isClique 25 = .ok (.aload_n 0, 1) := by decide +kernel
theorem dX12_isClique_26 : decode cX12_isClique 26 = .ok (.getfield 13, 3) := by decide +kernel
theorem dX12_isClique_29 : decode cX12_isClique 29 = .ok (.iload_n 3, 1) := by decide +kernel
theorem dX12_isClique_30 : decode cX12_isClique 30 = .ok (.iaload, 1) := by decide +kernel
theorem dX12_isClique_31 : decode cX12_isClique 31 = .ok (.iconst (-1), 1) := by decide +kernel
theorem dX12_isClique_32 : decode cX12_isClique 32 = .ok (.ixor, 1) := by decide +kernel
theorem dX12_isClique_33 : decode cX12_isClique 33 = .ok (.iand, 1) := by decide +kernel
theorem dX12_isClique_34 : decode cX12_isClique 34 = .ok (.iconst 1, 1) := by decide +kernel
theorem dX12_isClique_35 : decode cX12_isClique 35 = .ok (.iload_n 3, 1) := by decide +kernel
theorem dX12_isClique_36 : decode cX12_isClique 36 = .ok (.ishl, 1) := by decide +kernel
theorem dX12_isClique_37 : decode cX12_isClique 37 = .ok (.if_icmp .ne 7, 3) := by decide +kernel
theorem dX12_isClique_40 : decode cX12_isClique 40 = .ok (.iconst 1, 1) := by decide +kernel
theorem dX12_isClique_41 : decode cX12_isClique 41 = .ok (.goto 4, 3) := by decide +kernel
theorem dX12_isClique_44 : decode cX12_isClique 44 = .ok (.iconst 0, 1) := by decide +kernel
theorem dX12_isClique_45 : decode cX12_isClique 45 = .ok (.istore_n 2, 1) := by decide +kernel
theorem dX12_isClique_46 : decode cX12_isClique 46 = .ok (.iinc 3 1, 3) := by decide +kernel
theorem dX12_isClique_49 : decode cX12_isClique 49 = .ok (.goto (-45), 3) := by decide +kernel
theorem dX12_isClique_52 : decode cX12_isClique 52 = .ok (.iload_n 2, 1) := by decide +kernel
theorem dX12_isClique_53 : decode cX12_isClique 53 = .ok (.ireturn, 1) := by decide +kernel
set_option maxRecDepth 20000 in
theorem ggX12_isApart_X12_has : GoodIn wsX12_isApart wsX12_has := goodIn_r _ [6] (by decide +kernel) (by decide +kernel)
set_option maxRecDepth 20000 in
theorem gX12_isApart_X12_has : GoodIn wsX12_isApart (va_wsS RX12 90 yX12_has wsX12_has) := goodIn_app (goodIn_of _ (by decide +kernel)) ggX12_isApart_X12_has
theorem dX12_isApart_0 : decode cX12_isApart 0 = .ok (.iconst 1, 1) := by decide +kernel
theorem dX12_isApart_1 : decode cX12_isApart 1 = .ok (.istore_n 2, 1) := by decide +kernel
theorem dX12_isApart_2 : decode cX12_isApart 2 = .ok (.iconst 0, 1) := by decide +kernel
theorem dX12_isApart_3 : decode cX12_isApart 3 = .ok (.istore_n 3, 1) := by decide +kernel
theorem dX12_isApart_4 : decode cX12_isApart 4 = .ok (.iload_n 3, 1) := by decide +kernel
theorem dX12_isApart_5 : decode cX12_isApart 5 = .ok (.aload_n 0, 1) := by decide +kernel
theorem dX12_isApart_6 : decode cX12_isApart 6 = .ok (.getfield 73, 3) := by decide +kernel
theorem dX12_isApart_9 : decode cX12_isApart 9 = .ok (.if_icmp .ge 38, 3) := by decide +kernel
theorem dX12_isApart_12 : decode cX12_isApart 12 = .ok (.iload_n 2, 1) := by decide +kernel
theorem dX12_isApart_13 : decode cX12_isApart 13 = .ok (.ifCond .eq 26, 3) := by decide +kernel
theorem dX12_isApart_16 : decode cX12_isApart 16 = .ok (.iload_n 1, 1) := by decide +kernel
theorem dX12_isApart_17 : decode cX12_isApart 17 = .ok (.iload_n 3, 1) := by decide +kernel
theorem dX12_isApart_18 : decode cX12_isApart 18 = .ok (.invokestatic 90, 3) := by decide +kernel
theorem dX12_isApart_21 : decode cX12_isApart 21 = .ok (.ifCond .eq 14, 3) := by decide +kernel
theorem dX12_isApart_24 : decode cX12_isApart 24 = .ok (.iload_n 1, 1) := by decide +kernel
theorem dX12_isApart_25 : decode cX12_isApart 25 = .ok (.aload_n 0, 1) := by decide +kernel
theorem dX12_isApart_26 : decode cX12_isApart 26 = .ok (.getfield 13, 3) := by decide +kernel
theorem dX12_isApart_29 : decode cX12_isApart 29 = .ok (.iload_n 3, 1) := by decide +kernel
theorem dX12_isApart_30 : decode cX12_isApart 30 = .ok (.iaload, 1) := by decide +kernel
theorem dX12_isApart_31 : decode cX12_isApart 31 = .ok (.iand, 1) := by decide +kernel
theorem dX12_isApart_32 : decode cX12_isApart 32 = .ok (.ifCond .ne 7, 3) := by decide +kernel
theorem dX12_isApart_35 : decode cX12_isApart 35 = .ok (.iconst 1, 1) := by decide +kernel
theorem dX12_isApart_36 : decode cX12_isApart 36 = .ok (.goto 4, 3) := by decide +kernel
theorem dX12_isApart_39 : decode cX12_isApart 39 = .ok (.iconst 0, 1) := by decide +kernel
theorem dX12_isApart_40 : decode cX12_isApart 40 = .ok (.istore_n 2, 1) := by decide +kernel
theorem dX12_isApart_41 : decode cX12_isApart 41 = .ok (.iinc 3 1, 3) := by decide +kernel
theorem dX12_isApart_44 : decode cX12_isApart 44 = .ok (.goto (-40), 3) := by decide +kernel
theorem dX12_isApart_47 : decode cX12_isApart 47 = .ok (.iload_n 2, 1) := by decide +kernel
theorem dX12_isApart_48 : decode cX12_isApart 48 = .ok (.ireturn, 1) := by decide +kernel
set_option maxRecDepth 20000 in
theorem ggX12_kindOf_X12_isClique : GoodIn wsX12_kindOf wsX12_isClique := goodIn_r _ [6, 7, 1, 8, 9, 5, 10, 15, 16, 17, 18, 19, 20, 21, 22, 23, 24, 25, 26, 27, 28, 29, 30, 31, 32, 33, 34, 35, 36, 37, 38, 39, 40, 41, 42, 43] (by decide +kernel) (by decide +kernel)
set_option maxRecDepth 20000 in
theorem gX12_kindOf_X12_isClique : GoodIn wsX12_kindOf (wsV RX12 98 RX12 yX12_isClique wsX12_isClique) := goodIn_app (goodIn_of _ (by decide +kernel)) ggX12_kindOf_X12_isClique
set_option maxRecDepth 20000 in
theorem ggX12_kindOf_X12_all : GoodIn wsX12_kindOf wsX12_all := goodIn_r _ [14, 7, 15, 16, 17, 18, 19, 20, 21, 22, 23, 24, 25, 26, 27, 28, 29, 30, 31, 32, 33, 34, 35, 36, 37, 38, 39, 40, 41, 42, 43] (by decide +kernel) (by decide +kernel)
set_option maxRecDepth 20000 in
theorem gX12_kindOf_X12_all : GoodIn wsX12_kindOf (wsV RX12 101 RX12 yX12_all wsX12_all) := goodIn_app (goodIn_of _ (by decide +kernel)) ggX12_kindOf_X12_all
theorem dX12_kindOf_0 : decode cX12_kindOf 0 = .ok (.aload_n 0, 1) := by decide +kernel
theorem dX12_kindOf_1 : decode cX12_kindOf 1 = .ok (.getfield 13, 3) := by decide +kernel
theorem dX12_kindOf_4 : decode cX12_kindOf 4 = .ok (.iload_n 1, 1) := by decide +kernel
theorem dX12_kindOf_5 : decode cX12_kindOf 5 = .ok (.iaload, 1) := by decide +kernel
theorem dX12_kindOf_6 : decode cX12_kindOf 6 = .ok (.ifCond .ne 5, 3) := by decide +kernel
theorem dX12_kindOf_9 : decode cX12_kindOf 9 = .ok (.iconst 2, 1) := by decide +kernel
theorem dX12_kindOf_10 : decode cX12_kindOf 10 = .ok (.ireturn, 1) := by decide +kernel
theorem dX12_kindOf_11 : decode cX12_kindOf 11 = .ok (.aload_n 0, 1) := by decide +kernel
theorem dX12_kindOf_12 : decode cX12_kindOf 12 = .ok (.aload_n 0, 1) := by decide +kernel
theorem dX12_kindOf_13 : decode cX12_kindOf 13 = .ok (.getfield 13, 3) := by decide +kernel
theorem dX12_kindOf_16 : decode cX12_kindOf 16 = .ok (.iload_n 1, 1) := by decide +kernel
theorem dX12_kindOf_17 : decode cX12_kindOf 17 = .ok (.iaload, 1) := by decide +kernel
theorem dX12_kindOf_18 : decode cX12_kindOf 18 = .ok (.invokevirtual 98, 3) := by decide +kernel
theorem dX12_kindOf_21 : decode cX12_kindOf 21 = .ok (.ifCond .eq 7, 3) := by decide +kernel
theorem dX12_kindOf_24 : decode cX12_kindOf 24 = .ok (.iconst 1, 1) := by decide +kernel
theorem dX12_kindOf_25 : decode cX12_kindOf 25 = .ok (.goto 25, 3) := by decide +kernel
theorem dX12_kindOf_28 : decode cX12_kindOf 28 = .ok (.aload_n 0, 1) := by decide +kernel
theorem dX12_kindOf_29 : decode cX12_kindOf 29 = .ok (.getfield 13, 3) := by decide +kernel
theorem dX12_kindOf_32 : decode cX12_kindOf 32 = .ok (.iload_n 1, 1) := by decide +kernel
theorem dX12_kindOf_33 : decode cX12_kindOf 33 = .ok (.iaload, 1) := by decide +kernel
theorem dX12_kindOf_34 : decode cX12_kindOf 34 = .ok (.iconst 1, 1) := by decide +kernel
theorem dX12_kindOf_35 : decode cX12_kindOf 35 = .ok (.iload_n 1, 1) := by decide +kernel
theorem dX12_kindOf_36 : decode cX12_kindOf 36 = .ok (.ishl, 1) := by decide +kernel
theorem dX12_kindOf_37 : decode cX12_kindOf 37 = .ok (.ior, 1) := by decide +kernel
theorem dX12_kindOf_38 : decode cX12_kindOf 38 = .ok (.aload_n 0, 1) := by decide +kernel
theorem dX12_kindOf_39 : decode cX12_kindOf 39 = .ok (.invokevirtual 101, 3) := by decide +kernel
theorem dX12_kindOf_42 : decode cX12_kindOf 42 = .ok (.if_icmp .ne 7, 3) := by decide +kernel
theorem dX12_kindOf_45 : decode cX12_kindOf 45 = .ok (.iconst 3, 1) := by decide +kernel
theorem dX12_kindOf_46 : decode cX12_kindOf 46 = .ok (.goto 4, 3) := by decide +kernel
theorem dX12_kindOf_49 : decode cX12_kindOf 49 = .ok (.iconst 0, 1) := by decide +kernel
theorem dX12_kindOf_50 : decode cX12_kindOf 50 = .ok (.ireturn, 1) := by decide +kernel
set_option maxRecDepth 20000 in
theorem ggX12_kind_X12_isNode : GoodIn wsX12_kind wsX12_isNode := goodIn_r _ [5, 6, 7, 8, 4, 9, 26, 27, 28, 29, 30, 31, 32, 33, 34, 35, 36, 37, 38, 39, 40, 41, 42, 43, 44, 45, 46, 47, 48, 49, 50, 51, 52, 53, 54] (by decide +kernel) (by decide +kernel)
set_option maxRecDepth 20000 in
theorem gX12_kind_X12_isNode : GoodIn wsX12_kind (wsV RX12 86 RX12 yX12_isNode wsX12_isNode) := goodIn_app (goodIn_of _ (by decide +kernel)) ggX12_kind_X12_isNode
set_option maxRecDepth 20000 in
theorem ggX12_kind_X12_kindOf : GoodIn wsX12_kind wsX12_kindOf := goodIn_r _ [13, 14, 15, 16, 17, 4, 18, 6, 19, 20, 21, 22, 23, 24, 25, 26, 27, 28, 29, 30, 31, 32, 33, 34, 35, 36, 37, 38, 39, 40, 41, 42, 43, 44, 45, 46, 47, 48, 49, 50, 51, 52, 53, 54] (by decide +kernel) (by decide +kernel)
set_option maxRecDepth 20000 in
theorem gX12_kind_X12_kindOf : GoodIn wsX12_kind (wsV RX12 105 RX12 yX12_kindOf wsX12_kindOf) := goodIn_app (goodIn_of _ (by decide +kernel)) ggX12_kind_X12_kindOf
theorem dX12_kind_0 : decode cX12_kind 0 = .ok (.aload_n 0, 1) := by decide +kernel
theorem dX12_kind_1 : decode cX12_kind 1 = .ok (.iload_n 1, 1) := by decide +kernel
theorem dX12_kind_2 : decode cX12_kind 2 = .ok (.invokevirtual 86, 3) := by decide +kernel
theorem dX12_kind_5 : decode cX12_kind 5 = .ok (.ifCond .eq 11, 3) := by decide +kernel
theorem dX12_kind_8 : decode cX12_kind 8 = .ok (.aload_n 0, 1) := by decide +kernel
theorem dX12_kind_9 : decode cX12_kind 9 = .ok (.iload_n 1, 1) := by decide +kernel
theorem dX12_kind_10 : decode cX12_kind 10 = .ok (.invokevirtual 105, 3) := by decide +kernel
theorem dX12_kind_13 : decode cX12_kind 13 = .ok (.goto 4, 3) := by decide +kernel
theorem dX12_kind_16 : decode cX12_kind 16 = .ok (.iconst (-1), 1) := by decide +kernel
theorem dX12_kind_17 : decode cX12_kind 17 = .ok (.ireturn, 1) := by decide +kernel
set_option maxRecDepth 20000 in
theorem ggX12_degree_X12_isNode : GoodIn wsX12_degree wsX12_isNode := goodIn_r _ [6, 7, 8, 9, 5, 10, 35, 36, 37, 38, 39, 40, 41, 42, 43, 44, 45, 46, 47, 48, 49, 50, 51, 52, 53, 54, 55, 56, 57, 58, 59, 60, 61, 62, 63] (by decide +kernel) (by decide +kernel)
set_option maxRecDepth 20000 in
theorem gX12_degree_X12_isNode : GoodIn wsX12_degree (wsV RX12 86 RX12 yX12_isNode wsX12_isNode) := goodIn_app (goodIn_of _ (by decide +kernel)) ggX12_degree_X12_isNode
set_option maxRecDepth 20000 in
theorem ggX12_degree_X12_in : GoodIn wsX12_degree wsX12_in := goodIn_r _ [10] (by decide +kernel) (by decide +kernel)
set_option maxRecDepth 20000 in
theorem gX12_degree_X12_in : GoodIn wsX12_degree (va_wsS RX12 76 yX12_in wsX12_in) := goodIn_app (goodIn_of _ (by decide +kernel)) ggX12_degree_X12_in
set_option maxRecDepth 20000 in
theorem ggX12_degree_X12_kindOf : GoodIn wsX12_degree wsX12_kindOf := goodIn_r _ [14, 1, 15, 16, 17, 5, 18, 7, 19, 20, 21, 22, 23, 24, 25, 35, 36, 37, 38, 39, 40, 41, 42, 43, 44, 45, 46, 47, 48, 49, 50, 51, 52, 53, 54, 55, 56, 57, 58, 59, 60, 61, 62, 63] (by decide +kernel) (by decide +kernel)
set_option maxRecDepth 20000 in
theorem gX12_degree_X12_kindOf : GoodIn wsX12_degree (wsV RX12 105 RX12 yX12_kindOf wsX12_kindOf) := goodIn_app (goodIn_of _ (by decide +kernel)) ggX12_degree_X12_kindOf
set_option maxRecDepth 20000 in
theorem ggX12_degree_X12_bits : GoodIn wsX12_degree wsX12_bits := goodIn_r _ [28] (by decide +kernel) (by decide +kernel)
set_option maxRecDepth 20000 in
theorem gX12_degree_X12_bits : GoodIn wsX12_degree (va_wsS RX12 109 yX12_bits wsX12_bits) := goodIn_app (goodIn_of _ (by decide +kernel)) ggX12_degree_X12_bits
set_option maxRecDepth 20000 in
theorem ggX12_degree_X12_meets : GoodIn wsX12_degree wsX12_meets := goodIn_r _ [32, 33, 34, 35, 36, 37, 38, 39, 40, 41, 42, 43, 44, 45, 46, 47, 48, 49, 50, 51, 52, 53, 54, 55, 56, 57, 58, 59, 60, 61, 62, 63] (by decide +kernel) (by decide +kernel)
set_option maxRecDepth 20000 in
theorem gX12_degree_X12_meets : GoodIn wsX12_degree (wsV RX12 112 RX12 yX12_meets wsX12_meets) := goodIn_app (goodIn_of _ (by decide +kernel)) ggX12_degree_X12_meets
theorem dX12_degree_0 : decode cX12_degree 0 = .ok (.aload_n 0, 1) := by decide +kernel
theorem dX12_degree_1 : decode cX12_degree 1 = .ok (.iload_n 1, 1) := by decide +kernel
theorem dX12_degree_2 : decode cX12_degree 2 = .ok (.invokevirtual 86, 3) := by decide +kernel
theorem dX12_degree_5 : decode cX12_degree 5 = .ok (.ifCond .eq 12, 3) := by decide +kernel
theorem dX12_degree_8 : decode cX12_degree 8 = .ok (.iload_n 2, 1) := by decide +kernel
theorem dX12_degree_9 : decode cX12_degree 9 = .ok (.iconst 0, 1) := by decide +kernel
theorem dX12_degree_10 : decode cX12_degree 10 = .ok (.iconst 3, 1) := by decide +kernel
theorem dX12_degree_11 : decode cX12_degree 11 = .ok (.invokestatic 76, 3) := by decide +kernel
theorem dX12_degree_14 : decode cX12_degree 14 = .ok (.ifCond .ne 5, 3) := by decide +kernel
theorem dX12_degree_17 : decode cX12_degree 17 = .ok (.iconst (-1), 1) := by decide +kernel
theorem dX12_degree_18 : decode cX12_degree 18 = .ok (.ireturn, 1) := by decide +kernel
theorem dX12_degree_19 : decode cX12_degree 19 = .ok (.aload_n 0, 1) := by decide +kernel
theorem dX12_degree_20 : decode cX12_degree 20 = .ok (.iload_n 1, 1) := by decide +kernel
theorem dX12_degree_21 : decode cX12_degree 21 = .ok (.invokevirtual 105, 3) := by decide +kernel
theorem dX12_degree_24 : decode cX12_degree 24 = .ok (.istore_n 3, 1) := by decide +kernel
theorem dX12_degree_25 : decode cX12_degree 25 = .ok (.iload_n 2, 1) := by decide +kernel
theorem dX12_degree_26 : decode cX12_degree 26 = .ok (.ifCond .eq 18, 3) := by decide +kernel
theorem dX12_degree_29 : decode cX12_degree 29 = .ok (.iload_n 2, 1) := by decide +kernel
theorem dX12_degree_30 : decode cX12_degree 30 = .ok (.iload_n 3, 1) := by decide +kernel
theorem dX12_degree_31 : decode cX12_degree 31 = .ok (.if_icmp .eq 13, 3) := by decide +kernel
theorem dX12_degree_34 : decode cX12_degree 34 = .ok (.iload_n 2, 1) := by decide +kernel
theorem dX12_degree_35 : decode cX12_degree 35 = .ok (.iconst 1, 1) := by decide +kernel
theorem dX12_degree_36 : decode cX12_degree 36 = .ok (.if_icmp .ne 20, 3) := by decide +kernel
theorem dX12_degree_39 : decode cX12_degree 39 = .ok (.iload_n 3, 1) := by decide +kernel
theorem dX12_degree_40 : decode cX12_degree 40 = .ok (.iconst 2, 1) := by decide +kernel
theorem dX12_degree_41 : decode cX12_degree 41 = .ok (.if_icmp .ne 15, 3) := by decide +kernel
theorem dX12_degree_44 : decode cX12_degree 44 = .ok (.aload_n 0, 1) := by decide +kernel
theorem dX12_degree_45 : decode cX12_degree 45 = .ok (.getfield 13, 3) := by decide +kernel
theorem dX12_degree_48 : decode cX12_degree 48 = .ok (.iload_n 1, 1) := by decide +kernel
theorem dX12_degree_49 : decode cX12_degree 49 = .ok (.iaload, 1) := by decide +kernel
theorem dX12_degree_50 : decode cX12_degree 50 = .ok (.invokestatic 109, 3) := by decide +kernel
theorem dX12_degree_53 : decode cX12_degree 53 = .ok (.goto 8, 3) := by decide +kernel
theorem dX12_degree_56 : decode cX12_degree 56 = .ok (.aload_n 0, 1) := by decide +kernel
theorem dX12_degree_57 : decode cX12_degree 57 = .ok (.iconst 3, 1) := by decide +kernel
theorem dX12_degree_58 : decode cX12_degree 58 = .ok (.invokevirtual 112, 3) := by decide +kernel
theorem dX12_degree_61 : decode cX12_degree 61 = .ok (.ireturn, 1) := by decide +kernel
set_option maxRecDepth 20000 in
theorem ggX12_isSound_X12_all : GoodIn wsX12_isSound wsX12_all := goodIn_r _ [7, 1, 15, 16, 17, 18, 19, 20, 21, 22, 23, 24, 25, 26, 27, 28, 29, 30, 31, 32, 33, 34, 35, 36, 37, 38, 39, 40, 41, 42, 43] (by decide +kernel) (by decide +kernel)
set_option maxRecDepth 20000 in
theorem gX12_isSound_X12_all : GoodIn wsX12_isSound (wsV RX12 101 RX12 yX12_all wsX12_all) := goodIn_app (goodIn_of _ (by decide +kernel)) ggX12_isSound_X12_all
set_option maxRecDepth 20000 in
theorem ggX12_isSound_X12_has : GoodIn wsX12_isSound wsX12_has := goodIn_r _ [10] (by decide +kernel) (by decide +kernel)
set_option maxRecDepth 20000 in
theorem gX12_isSound_X12_has : GoodIn wsX12_isSound (va_wsS RX12 90 yX12_has wsX12_has) := goodIn_app (goodIn_of _ (by decide +kernel)) ggX12_isSound_X12_has
set_option maxRecDepth 20000 in
theorem ggX12_isSound_X12_isClique : GoodIn wsX12_isSound wsX12_isClique := goodIn_r _ [14, 1, 2, 8, 9, 6, 10, 15, 16, 17, 18, 19, 20, 21, 22, 23, 24, 25, 26, 27, 28, 29, 30, 31, 32, 33, 34, 35, 36, 37, 38, 39, 40, 41, 42, 43] (by decide +kernel) (by decide +kernel)
set_option maxRecDepth 20000 in
theorem gX12_isSound_X12_isClique : GoodIn wsX12_isSound (wsV RX12 98 RX12 yX12_isClique wsX12_isClique) := goodIn_app (goodIn_of _ (by decide +kernel)) ggX12_isSound_X12_isClique
theorem dX12_isSound_0 : decode cX12_isSound 0 = .ok (.aload_n 0, 1) := by decide +kernel
theorem dX12_isSound_1 : decode cX12_isSound 1 = .ok (.invokevirtual 101, 3) := by decide +kernel
theorem dX12_isSound_4 : decode cX12_isSound 4 = .ok (.istore_n 1, 1) := by decide +kernel
theorem dX12_isSound_5 : decode cX12_isSound 5 = .ok (.iconst 1, 1) := by decide +kernel
theorem dX12_isSound_6 : decode cX12_isSound 6 = .ok (.istore_n 2, 1) := by decide +kernel
theorem dX12_isSound_7 : decode cX12_isSound 7 = .ok (.iload_n 2, 1) := by decide +kernel
theorem dX12_isSound_8 : decode cX12_isSound 8 = .ok (.ifCond .eq 57, 3) := by decide +kernel
theorem dX12_isSound_11 : decode cX12_isSound 11 = .ok (.iconst 0, 1) := by decide +kernel
theorem dX12_isSound_12 : decode cX12_isSound 12 = .ok (.istore_n 2, 1) := by decide +kernel
theorem dX12_isSound_13 : decode cX12_isSound 13 = .ok (.iconst 0, 1) := by decide +kernel
theorem dX12_isSound_14 : decode cX12_isSound 14 = .ok (.istore_n 3, 1) := by decide +kernel
theorem dX12_isSound_15 : decode cX12_isSound 15 = .ok (.iload_n 3, 1) := by decide +kernel
theorem dX12_isSound_16 : decode cX12_isSound 16 = .ok (.aload_n 0, 1) := by decide +kernel
theorem dX12_isSound_17 : decode cX12_isSound 17 = .ok (.getfield 73, 3) := by decide +kernel
theorem dX12_isSound_20 : decode cX12_isSound 20 = .ok (.if_icmp .ge 42, 3) := by decide +kernel
theorem dX12_isSound_23 : decode cX12_isSound 23 = .ok (.iload_n 1, 1) := by decide +kernel
theorem dX12_isSound_24 : decode cX12_isSound 24 = .ok (.iload_n 3, 1) := by decide +kernel
theorem dX12_isSound_25 : decode cX12_isSound 25 = .ok (.invokestatic 90, 3) := by decide +kernel
theorem dX12_isSound_28 : decode cX12_isSound 28 = .ok (.ifCond .eq 28, 3) := by decide +kernel
theorem dX12_isSound_31 : decode cX12_isSound 31 = .ok (.aload_n 0, 1) := by decide +kernel
theorem dX12_isSound_32 : decode cX12_isSound 32 = .ok (.aload_n 0, 1) := by decide +kernel
theorem dX12_isSound_33 : decode cX12_isSound 33 = .ok (.getfield 13, 3) := by decide +kernel
theorem dX12_isSound_36 : decode cX12_isSound 36 = .ok (.iload_n 3, 1) := by decide +kernel
theorem dX12_isSound_37 : decode cX12_isSound 37 = .ok (.iaload, 1) := by decide +kernel
theorem dX12_isSound_38 : decode cX12_isSound 38 = .ok (.iload_n 1, 1) := by decide +kernel
theorem dX12_isSound_39 : decode cX12_isSound 39 = .ok (.iand, 1) := by decide +kernel
theorem dX12_isSound_40 : decode cX12_isSound 40 = .ok (.invokevirtual 98, 3) := by decide +kernel
theorem dX12_isSound_43 : decode cX12_isSound 43 = .ok (.ifCond .eq 13, 3) := by decide +kernel
theorem dX12_isSound_46 : decode cX12_isSound 46 = .ok (.iload_n 1, 1) := by decide +kernel
theorem dX12_isSound_47 : decode cX12_isSound 47 = .ok (.iconst 1, 1) := by decide +kernel
theorem dX12_isSound_48 : decode cX12_isSound 48 = .ok (.iload_n 3, 1) := by decide +kernel
theorem dX12_isSound_49 : decode cX12_isSound 49 = .ok (.ishl, 1) := by decide +kernel
theorem dX12_isSound_50 : decode cX12_isSound 50 = .ok (.iconst (-1), 1) := by decide +kernel
theorem dX12_isSound_51 : decode cX12_isSound 51 = .ok (.ixor, 1) := by decide +kernel
theorem dX12_isSound_52 : decode cX12_isSound 52 = .ok (.iand, 1) := by decide +kernel
theorem dX12_isSound_53 : decode cX12_isSound 53 = .ok (.istore_n 1, 1) := by decide +kernel
theorem dX12_isSound_54 : decode cX12_isSound 54 = .ok (.iconst 1, 1) := by decide +kernel
theorem dX12_isSound_55 : decode cX12_isSound 55 = .ok (.istore_n 2, 1) := by decide +kernel
theorem dX12_isSound_56 : decode cX12_isSound 56 = .ok (.iinc 3 1, 3) := by decide +kernel
theorem dX12_isSound_59 : decode cX12_isSound 59 = .ok (.goto (-44), 3) := by decide +kernel
theorem dX12_isSound_62 : decode cX12_isSound 62 = .ok (.goto (-55), 3) := by decide +kernel
theorem dX12_isSound_65 : decode cX12_isSound 65 = .ok (.iload_n 1, 1) := by decide +kernel
theorem dX12_isSound_66 : decode cX12_isSound 66 = .ok (.ifCond .ne 7, 3) := by decide +kernel
theorem dX12_isSound_69 : decode cX12_isSound 69 = .ok (.iconst 1, 1) := by decide +kernel
theorem dX12_isSound_70 : decode cX12_isSound 70 = .ok (.goto 4, 3) := by decide +kernel
theorem dX12_isSound_73 : decode cX12_isSound 73 = .ok (.iconst 0, 1) := by decide +kernel
theorem dX12_isSound_74 : decode cX12_isSound 74 = .ok (.ireturn, 1) := by decide +kernel
set_option maxRecDepth 20000 in
theorem ggX12_sound_X12_isSound : GoodIn wsX12_sound wsX12_isSound := goodIn_r _ [5, 6, 7, 8, 9, 10, 4, 11, 12, 13, 14, 15, 16, 17, 18, 19, 20, 21, 22, 23, 24, 25, 26, 27, 28, 29, 30, 31, 32, 33, 34, 35, 36, 37, 38, 39, 40, 41, 42, 43, 44, 45, 46, 47] (by decide +kernel) (by decide +kernel)
set_option maxRecDepth 20000 in
theorem gX12_sound_X12_isSound : GoodIn wsX12_sound (wsV RX12 115 RX12 yX12_isSound wsX12_isSound) := goodIn_app (goodIn_of _ (by decide +kernel)) ggX12_sound_X12_isSound
theorem dX12_sound_0 : decode cX12_sound 0 = .ok (.aload_n 0, 1) := by decide +kernel
theorem dX12_sound_1 : decode cX12_sound 1 = .ok (.invokevirtual 115, 3) := by decide +kernel
theorem dX12_sound_4 : decode cX12_sound 4 = .ok (.ifCond .eq 7, 3) := by decide +kernel
theorem dX12_sound_7 : decode cX12_sound 7 = .ok (.iconst 1, 1) := by decide +kernel
theorem dX12_sound_8 : decode cX12_sound 8 = .ok (.goto 4, 3) := by decide +kernel
theorem dX12_sound_11 : decode cX12_sound 11 = .ok (.iconst 0, 1) := by decide +kernel
theorem dX12_sound_12 : decode cX12_sound 12 = .ok (.ireturn, 1) := by decide +kernel
set_option maxRecDepth 20000 in
theorem ggX12_goesOn_X12_has : GoodIn wsX12_goesOn wsX12_has := goodIn_r _ [7] (by decide +kernel) (by decide +kernel)
set_option maxRecDepth 20000 in
theorem gX12_goesOn_X12_has : GoodIn wsX12_goesOn (va_wsS RX12 90 yX12_has wsX12_has) := goodIn_app (goodIn_of _ (by decide +kernel)) ggX12_goesOn_X12_has
set_option maxRecDepth 20000 in
theorem ggX12_goesOn_X12_goesOn : GoodIn wsX12_goesOn wsX12_goesOn := goodIn_r _ [0, 1, 2, 3, 4, 5, 6, 7, 8, 9, 10, 11, 12, 13, 14, 15, 16, 17, 18, 19, 20, 21, 22, 23, 24, 25, 26, 27, 28, 29, 30, 31, 32, 33, 34, 35, 36, 37, 38, 39] (by decide +kernel) (by decide +kernel)
set_option maxRecDepth 20000 in
theorem gX12_goesOn_X12_goesOn : GoodIn wsX12_goesOn (wsV RX12 119 RX12 yX12_goesOn wsX12_goesOn) := goodIn_app (goodIn_of _ (by decide +kernel)) ggX12_goesOn_X12_goesOn
theorem dX12_goesOn_0 : decode cX12_goesOn 0 = .ok (.aload_n 0, 1) := by decide +kernel
theorem dX12_goesOn_1 : decode cX12_goesOn 1 = .ok (.getfield 19, 3) := by decide +kernel
theorem dX12_goesOn_4 : decode cX12_goesOn 4 = .ok (.iload_n 1, 1) := by decide +kernel
theorem dX12_goesOn_5 : decode cX12_goesOn 5 = .ok (.iconst 1, 1) := by decide +kernel
theorem dX12_goesOn_6 : decode cX12_goesOn 6 = .ok (.isub, 1) := by decide +kernel
theorem dX12_goesOn_7 : decode cX12_goesOn 7 = .ok (.iaload, 1) := by decide +kernel
theorem dX12_goesOn_8 : decode cX12_goesOn 8 = .ok (.istore_n 3, 1) := by decide +kernel
theorem dX12_goesOn_9 : decode cX12_goesOn 9 = .ok (.aload_n 0, 1) := by decide +kernel
theorem dX12_goesOn_10 : decode cX12_goesOn 10 = .ok (.getfield 19, 3) := by decide +kernel
theorem dX12_goesOn_13 : decode cX12_goesOn 13 = .ok (.iconst 0, 1) := by decide +kernel
theorem dX12_goesOn_14 : decode cX12_goesOn 14 = .ok (.iaload, 1) := by decide +kernel
theorem dX12_goesOn_15 : decode cX12_goesOn 15 = .ok (.iconst 1, 1) := by decide +kernel
theorem dX12_goesOn_16 : decode cX12_goesOn 16 = .ok (.iadd, 1) := by decide +kernel
theorem dX12_goesOn_17 : decode cX12_goesOn 17 = .ok (.istore 4, 2) := by decide +kernel
theorem dX12_goesOn_19 : decode cX12_goesOn 19 = .ok (.iload 4, 2) := by decide +kernel
theorem dX12_goesOn_21 : decode cX12_goesOn 21 = .ok (.aload_n 0, 1) := by decide +kernel
theorem dX12_goesOn_22 : decode cX12_goesOn 22 = .ok (.getfield 73, 3) := by decide +kernel
theorem dX12_goesOn_25 : decode cX12_goesOn 25 = .ok (.if_icmp .ge 168, 3) := by decide +kernel
theorem dX12_goesOn_28 : decode cX12_goesOn 28 = .ok (.iconst 0, 1) := by decide +kernel
theorem dX12_goesOn_29 : decode cX12_goesOn 29 = .ok (.istore 5, 2) := by decide +kernel
theorem dX12_goesOn_31 : decode cX12_goesOn 31 = .ok (.iconst 0, 1) := by decide +kernel
theorem dX12_goesOn_32 : decode cX12_goesOn 32 = .ok (.istore 6, 2) := by decide +kernel
theorem dX12_goesOn_34 : decode cX12_goesOn 34 = .ok (.iconst 0, 1) := by decide +kernel
theorem dX12_goesOn_35 : decode cX12_goesOn 35 = .ok (.istore 7, 2) := by decide +kernel
theorem dX12_goesOn_37 : decode cX12_goesOn 37 = .ok (.iload 7, 2) := by decide +kernel
theorem dX12_goesOn_39 : decode cX12_goesOn 39 = .ok (.iload_n 1, 1) := by decide +kernel
theorem dX12_goesOn_40 : decode cX12_goesOn 40 = .ok (.if_icmp .ge 66, 3) := by decide +kernel
theorem dX12_goesOn_43 : decode cX12_goesOn 43 = .ok (.iload 6, 2) := by decide +kernel
theorem dX12_goesOn_45 : decode cX12_goesOn 45 = .ok (.ifCond .ne 15, 3) := by decide +kernel
theorem dX12_goesOn_48 : decode cX12_goesOn 48 = .ok (.aload_n 0, 1) := by decide +kernel
theorem dX12_goesOn_49 : decode cX12_goesOn 49 = .ok (.getfield 19, 3) := by decide +kernel
theorem dX12_goesOn_52 : decode cX12_goesOn 52 = .ok (.iload 7, 2) := by decide +kernel
theorem dX12_goesOn_54 : decode cX12_goesOn 54 = .ok (.iaload, 1) := by decide +kernel
theorem dX12_goesOn_55 : decode cX12_goesOn 55 = .ok (.iload 4, 2) := by decide +kernel
theorem dX12_goesOn_57 : decode cX12_goesOn 57 = .ok (.if_icmp .ne 7, 3) := by decide +kernel
theorem dX12_goesOn_60 : decode cX12_goesOn 60 = .ok (.iconst 1, 1) := by decide +kernel
theorem dX12_goesOn_61 : decode cX12_goesOn 61 = .ok (.goto 4, 3) := by decide +kernel
theorem dX12_goesOn_64 : decode cX12_goesOn 64 = .ok (.iconst 0, 1) := by decide +kernel
theorem dX12_goesOn_65 : decode cX12_goesOn 65 = .ok (.istore 6, 2) := by decide +kernel
