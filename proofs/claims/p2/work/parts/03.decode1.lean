theorem dX4_all_0 : decode cX4_all 0 = .ok (.iconst 1, 1) := by decide +kernel
theorem dX4_all_1 : decode cX4_all 1 = .ok (.aload_n 0, 1) := by decide +kernel
theorem dX4_all_2 : decode cX4_all 2 = .ok (.getfield 15, 3) := by decide +kernel
theorem dX4_all_5 : decode cX4_all 5 = .ok (.ishl, 1) := by decide +kernel
theorem dX4_all_6 : decode cX4_all 6 = .ok (.iconst 1, 1) := by decide +kernel
theorem dX4_all_7 : decode cX4_all 7 = .ok (.isub, 1) := by decide +kernel
theorem dX4_all_8 : decode cX4_all 8 = .ok (.ireturn, 1) := by decide +kernel
set_option maxRecDepth 20000 in
theorem ggX4_restart_J7_fill_53178 : GoodIn wsX4_restart wsJ7_fill_53178 := goodIn_r _ [7] (by decide +kernel) (by decide +kernel)
set_option maxRecDepth 20000 in
theorem gX4_restart_J7_fill_53178 : GoodIn wsX4_restart (va_wsS RX4 26 yJ7_fill_53178 wsJ7_fill_53178) := goodIn_app (goodIn_of _ (by decide +kernel)) ggX4_restart_J7_fill_53178
theorem dX4_restart_0 : decode cX4_restart 0 = .ok (.aload_n 0, 1) := by decide +kernel
theorem dX4_restart_1 : decode cX4_restart 1 = .ok (.iload_n 1, 1) := by decide +kernel
theorem dX4_restart_2 : decode cX4_restart 2 = .ok (.putfield 15, 3) := by decide +kernel
theorem dX4_restart_5 : decode cX4_restart 5 = .ok (.aload_n 0, 1) := by decide +kernel
theorem dX4_restart_6 : decode cX4_restart 6 = .ok (.getfield 9, 3) := by decide +kernel
theorem dX4_restart_9 : decode cX4_restart 9 = .ok (.iconst 0, 1) := by decide +kernel
theorem dX4_restart_10 : decode cX4_restart 10 = .ok (.invokestatic 26, 3) := by decide +kernel
theorem dX4_restart_13 : decode cX4_restart 13 = .ok (.aload_n 0, 1) := by decide +kernel
theorem dX4_restart_14 : decode cX4_restart 14 = .ok (.dup, 1) := by decide +kernel
theorem dX4_restart_15 : decode cX4_restart 15 = .ok (.getfield 19, 3) := by decide +kernel
theorem dX4_restart_18 : decode cX4_restart 18 = .ok (.iconst 1, 1) := by decide +kernel
theorem dX4_restart_19 : decode cX4_restart 19 = .ok (.iadd, 1) := by decide +kernel
theorem dX4_restart_20 : decode cX4_restart 20 = .ok (.putfield 19, 3) := by decide +kernel
theorem dX4_restart_23 : decode cX4_restart 23 = .ok (.return_, 1) := by decide +kernel
set_option maxRecDepth 20000 in
theorem ggX4_invert_X4_all : GoodIn wsX4_invert wsX4_all := goodIn_r _ [8, 1, 9, 10, 11] (by decide +kernel) (by decide +kernel)
set_option maxRecDepth 20000 in
theorem gX4_invert_X4_all : GoodIn wsX4_invert (wsV RX4 32 RX4 yX4_all wsX4_all) := goodIn_app (goodIn_of _ (by decide +kernel)) ggX4_invert_X4_all
theorem dX4_invert_0 : decode cX4_invert 0 = .ok (.iconst 0, 1) := by decide +kernel
theorem dX4_invert_1 : decode cX4_invert 1 = .ok (.istore_n 1, 1) := by decide +kernel
theorem dX4_invert_2 : decode cX4_invert 2 = .ok (.iload_n 1, 1) := by decide +kernel
theorem dX4_invert_3 : decode cX4_invert 3 = .ok (.aload_n 0, 1) := by decide +kernel
theorem dX4_invert_4 : decode cX4_invert 4 = .ok (.getfield 15, 3) := by decide +kernel
theorem dX4_invert_7 : decode cX4_invert 7 = .ok (.if_icmp .ge 34, 3) := by decide +kernel
theorem dX4_invert_10 : decode cX4_invert 10 = .ok (.aload_n 0, 1) := by decide +kernel
theorem dX4_invert_11 : decode cX4_invert 11 = .ok (.getfield 9, 3) := by decide +kernel
theorem dX4_invert_14 : decode cX4_invert 14 = .ok (.iload_n 1, 1) := by decide +kernel
theorem dX4_invert_15 : decode cX4_invert 15 = .ok (.aload_n 0, 1) := by decide +kernel
theorem dX4_invert_16 : decode cX4_invert 16 = .ok (.invokevirtual 32, 3) := by decide +kernel
theorem dX4_invert_19 : decode cX4_invert 19 = .ok (.aload_n 0, 1) := by decide +kernel
theorem dX4_invert_20 : decode cX4_invert 20 = .ok (.getfield 9, 3) := by decide +kernel
theorem dX4_invert_23 : decode cX4_invert 23 = .ok (.iload_n 1, 1) := by decide +kernel
theorem dX4_invert_24 : decode cX4_invert 24 = .ok (.iaload, 1) := by decide +kernel
theorem dX4_invert_25 : decode cX4_invert 25 = .ok (.iconst (-1), 1) := by decide +kernel
theorem dX4_invert_26 : decode cX4_invert 26 = .ok (.ixor, 1) := by decide +kernel
theorem dX4_invert_27 : decode cX4_invert 27 = .ok (.iand, 1) := by decide +kernel
theorem dX4_invert_28 : decode cX4_invert 28 = .ok (.iconst 1, 1) := by decide +kernel
theorem dX4_invert_29 : decode cX4_invert 29 = .ok (.iload_n 1, 1) := by decide +kernel
theorem dX4_invert_30 : decode cX4_invert 30 = .ok (.ishl, 1) := by decide +kernel
theorem dX4_invert_31 : decode cX4_invert 31 = .ok (.iconst (-1), 1) := by decide +kernel
theorem dX4_invert_32 : decode cX4_invert 32 = .ok (.ixor, 1) := by decide +kernel
theorem dX4_invert_33 : decode cX4_invert 33 = .ok (.iand, 1) := by decide +kernel
theorem dX4_invert_34 : decode cX4_invert 34 = .ok (.iastore, 1) := by decide +kernel
theorem dX4_invert_35 : decode cX4_invert 35 = .ok (.iinc 1 1, 3) := by decide +kernel
theorem dX4_invert_38 : decode cX4_invert 38 = .ok (.goto (-36), 3) := by decide +kernel
theorem dX4_invert_41 : decode cX4_invert 41 = .ok (.aload_n 0, 1) := by decide +kernel
theorem dX4_invert_42 : decode cX4_invert 42 = .ok (.dup, 1) := by decide +kernel
theorem dX4_invert_43 : decode cX4_invert 43 = .ok (.getfield 19, 3) := by decide +kernel
theorem dX4_invert_46 : decode cX4_invert 46 = .ok (.iconst 1, 1) := by decide +kernel
theorem dX4_invert_47 : decode cX4_invert 47 = .ok (.iadd, 1) := by decide +kernel
theorem dX4_invert_48 : decode cX4_invert 48 = .ok (.putfield 19, 3) := by decide +kernel
theorem dX4_invert_51 : decode cX4_invert 51 = .ok (.return_, 1) := by decide +kernel
set_option maxRecDepth 20000 in
theorem ggX4_pairs_J6_bitCount_0f7a4 : GoodIn wsX4_pairs wsJ6_bitCount_0f7a4 := goodIn_r _ [6, 7, 8, 9] (by decide +kernel) (by decide +kernel)
set_option maxRecDepth 20000 in
theorem gX4_pairs_J6_bitCount_0f7a4 : GoodIn wsX4_pairs (va_wsS RX4 36 yJ6_bitCount_0f7a4 wsJ6_bitCount_0f7a4) := goodIn_app (goodIn_of _ (by decide +kernel)) ggX4_pairs_J6_bitCount_0f7a4
theorem dX4_pairs_0 : decode cX4_pairs 0 = .ok (.iconst 0, 1) := by decide +kernel
theorem dX4_pairs_1 : decode cX4_pairs 1 = .ok (.istore_n 1, 1) := by decide +kernel
theorem dX4_pairs_2 : decode cX4_pairs 2 = .ok (.iconst 0, 1) := by decide +kernel
theorem dX4_pairs_3 : decode cX4_pairs 3 = .ok (.istore_n 2, 1) := by decide +kernel
theorem dX4_pairs_4 : decode cX4_pairs 4 = .ok (.iload_n 2, 1) := by decide +kernel
theorem dX4_pairs_5 : decode cX4_pairs 5 = .ok (.aload_n 0, 1) := by decide +kernel
theorem dX4_pairs_6 : decode cX4_pairs 6 = .ok (.getfield 15, 3) := by decide +kernel
theorem dX4_pairs_9 : decode cX4_pairs 9 = .ok (.if_icmp .ge 21, 3) := by decide +kernel
theorem dX4_pairs_12 : decode cX4_pairs 12 = .ok (.iload_n 1, 1) := by decide +kernel
theorem dX4_pairs_13 : decode cX4_pairs 13 = .ok (.aload_n 0, 1) := by decide +kernel
theorem dX4_pairs_14 : decode cX4_pairs 14 = .ok (.getfield 9, 3) := by decide +kernel
theorem dX4_pairs_17 : decode cX4_pairs 17 = .ok (.iload_n 2, 1) := by decide +kernel
theorem dX4_pairs_18 : decode cX4_pairs 18 = .ok (.iaload, 1) := by decide +kernel
theorem dX4_pairs_19 : decode cX4_pairs 19 = .ok (.invokestatic 36, 3) := by decide +kernel
theorem dX4_pairs_22 : decode cX4_pairs 22 = .ok (.iadd, 1) := by decide +kernel
theorem dX4_pairs_23 : decode cX4_pairs 23 = .ok (.istore_n 1, 1) := by decide +kernel
theorem dX4_pairs_24 : decode cX4_pairs 24 = .ok (.iinc 2 1, 3) := by decide +kernel
theorem dX4_pairs_27 : decode cX4_pairs 27 = .ok (.goto (-23), 3) := by decide +kernel
theorem dX4_pairs_30 : decode cX4_pairs 30 = .ok (.iload_n 1, 1) := by decide +kernel
theorem dX4_pairs_31 : decode cX4_pairs 31 = .ok (.iconst 2, 1) := by decide +kernel
theorem dX4_pairs_32 : decode cX4_pairs 32 = .ok (.idiv, 1) := by decide +kernel
theorem dX4_pairs_33 : decode cX4_pairs 33 = .ok (.ireturn, 1) := by decide +kernel
theorem dX6_length_0 : decode cX6_length 0 = .ok (.aload_n 0, 1) := by decide +kernel
theorem dX6_length_1 : decode cX6_length 1 = .ok (.getfield 39, 3) := by decide +kernel
theorem dX6_length_4 : decode cX6_length 4 = .ok (.ifCond .eq 10, 3) := by decide +kernel
theorem dX6_length_7 : decode cX6_length 7 = .ok (.aload_n 0, 1) := by decide +kernel
theorem dX6_length_8 : decode cX6_length 8 = .ok (.getfield 36, 3) := by decide +kernel
theorem dX6_length_11 : decode cX6_length 11 = .ok (.goto 4, 3) := by decide +kernel
theorem dX6_length_14 : decode cX6_length 14 = .ok (.iconst 0, 1) := by decide +kernel
theorem dX6_length_15 : decode cX6_length 15 = .ok (.ireturn, 1) := by decide +kernel
theorem dX6_drop_0 : decode cX6_drop 0 = .ok (.aload_n 0, 1) := by decide +kernel
theorem dX6_drop_1 : decode cX6_drop 1 = .ok (.iconst 0, 1) := by decide +kernel
theorem dX6_drop_2 : decode cX6_drop 2 = .ok (.putfield 39, 3) := by decide +kernel
theorem dX6_drop_5 : decode cX6_drop 5 = .ok (.return_, 1) := by decide +kernel
set_option maxRecDepth 20000 in
theorem ggX6_keepDrafted_X11_in : GoodIn wsX6_keepDrafted wsX11_in := goodIn_r _ [5] (by decide +kernel) (by decide +kernel)
set_option maxRecDepth 20000 in
theorem gX6_keepDrafted_X11_in_n53 : GoodIn wsX6_keepDrafted (wsX11_in) := ggX6_keepDrafted_X11_in
theorem dX6_keepDrafted_0 : decode cX6_keepDrafted 0 = .ok (.iconst 0, 1) := by decide +kernel
theorem dX6_keepDrafted_1 : decode cX6_keepDrafted 1 = .ok (.istore_n 2, 1) := by decide +kernel
theorem dX6_keepDrafted_2 : decode cX6_keepDrafted 2 = .ok (.iconst 0, 1) := by decide +kernel
theorem dX6_keepDrafted_3 : decode cX6_keepDrafted 3 = .ok (.istore_n 3, 1) := by decide +kernel
theorem dX6_keepDrafted_4 : decode cX6_keepDrafted 4 = .ok (.iload_n 3, 1) := by decide +kernel
theorem dX6_keepDrafted_5 : decode cX6_keepDrafted 5 = .ok (.aload_n 0, 1) := by decide +kernel
theorem dX6_keepDrafted_6 : decode cX6_keepDrafted 6 = .ok (.getfield 32, 3) := by decide +kernel
theorem dX6_keepDrafted_9 : decode cX6_keepDrafted 9 = .ok (.if_icmp .ge 37, 3) := by decide +kernel
theorem dX6_keepDrafted_12 : decode cX6_keepDrafted 12 = .ok (.iload_n 1, 1) := by decide +kernel
theorem dX6_keepDrafted_13 : decode cX6_keepDrafted 13 = .ok (.aload_n 0, 1) := by decide +kernel
theorem dX6_keepDrafted_14 : decode cX6_keepDrafted 14 = .ok (.getfield 29, 3) := by decide +kernel
theorem dX6_keepDrafted_17 : decode cX6_keepDrafted 17 = .ok (.iload_n 3, 1) := by decide +kernel
theorem dX6_keepDrafted_18 : decode cX6_keepDrafted 18 = .ok (.iaload, 1) := by decide +kernel
theorem dX6_keepDrafted_19 : decode cX6_keepDrafted 19 = .ok (.invokestatic 53, 3) := by decide +kernel
theorem dX6_keepDrafted_22 : decode cX6_keepDrafted 22 = .ok (.ifCond .eq 18, 3) := by decide +kernel
theorem dX6_keepDrafted_25 : decode cX6_keepDrafted 25 = .ok (.aload_n 0, 1) := by decide +kernel
theorem dX6_keepDrafted_26 : decode cX6_keepDrafted 26 = .ok (.getfield 29, 3) := by decide +kernel
theorem dX6_keepDrafted_29 : decode cX6_keepDrafted 29 = .ok (.iload_n 2, 1) := by decide +kernel
theorem dX6_keepDrafted_30 : decode cX6_keepDrafted 30 = .ok (.aload_n 0, 1) := by decide +kernel
theorem dX6_keepDrafted_31 : decode cX6_keepDrafted 31 = .ok (.getfield 29, 3) := by decide +kernel
theorem dX6_keepDrafted_34 : decode cX6_keepDrafted 34 = .ok (.iload_n 3, 1) := by decide +kernel
theorem dX6_keepDrafted_35 : decode cX6_keepDrafted 35 = .ok (.iaload, 1) := by decide +kernel
theorem dX6_keepDrafted_36 : decode cX6_keepDrafted 36 = .ok (.iastore, 1) := by decide +kernel
theorem dX6_keepDrafted_37 : decode cX6_keepDrafted 37 = .ok (.iinc 2 1, 3) := by decide +kernel
theorem dX6_keepDrafted_40 : decode cX6_keepDrafted 40 = .ok (.iinc 3 1, 3) := by decide +kernel
theorem dX6_keepDrafted_43 : decode cX6_keepDrafted 43 = .ok (.goto (-39), 3) := by decide +kernel
theorem dX6_keepDrafted_46 : decode cX6_keepDrafted 46 = .ok (.aload_n 0, 1) := by decide +kernel
theorem dX6_keepDrafted_47 : decode cX6_keepDrafted 47 = .ok (.iload_n 2, 1) := by decide +kernel
theorem dX6_keepDrafted_48 : decode cX6_keepDrafted 48 = .ok (.putfield 32, 3) := by decide +kernel
theorem dX6_keepDrafted_51 : decode cX6_keepDrafted 51 = .ok (.return_, 1) := by decide +kernel
set_option maxRecDepth 20000 in
theorem ggX10_restart_J7_fill_53178 : GoodIn wsX10_restart wsJ7_fill_53178 := goodIn_r _ [7] (by decide +kernel) (by decide +kernel)
set_option maxRecDepth 20000 in
theorem gX10_restart_J7_fill_53178 : GoodIn wsX10_restart (va_wsS RX10 22 yJ7_fill_53178 wsJ7_fill_53178) := goodIn_app (goodIn_of _ (by decide +kernel)) ggX10_restart_J7_fill_53178
theorem dX10_restart_0 : decode cX10_restart 0 = .ok (.aload_n 0, 1) := by decide +kernel
theorem dX10_restart_1 : decode cX10_restart 1 = .ok (.iload_n 1, 1) := by decide +kernel
theorem dX10_restart_2 : decode cX10_restart 2 = .ok (.putfield 15, 3) := by decide +kernel
theorem dX10_restart_5 : decode cX10_restart 5 = .ok (.aload_n 0, 1) := by decide +kernel
theorem dX10_restart_6 : decode cX10_restart 6 = .ok (.getfield 9, 3) := by decide +kernel
theorem dX10_restart_9 : decode cX10_restart 9 = .ok (.iconst (-1), 1) := by decide +kernel
theorem dX10_restart_10 : decode cX10_restart 10 = .ok (.invokestatic 22, 3) := by decide +kernel
theorem dX10_restart_13 : decode cX10_restart 13 = .ok (.aload_n 0, 1) := by decide +kernel
theorem dX10_restart_14 : decode cX10_restart 14 = .ok (.dup, 1) := by decide +kernel
theorem dX10_restart_15 : decode cX10_restart 15 = .ok (.getfield 19, 3) := by decide +kernel
theorem dX10_restart_18 : decode cX10_restart 18 = .ok (.iconst 1, 1) := by decide +kernel
theorem dX10_restart_19 : decode cX10_restart 19 = .ok (.iadd, 1) := by decide +kernel
theorem dX10_restart_20 : decode cX10_restart 20 = .ok (.putfield 19, 3) := by decide +kernel
theorem dX10_restart_23 : decode cX10_restart 23 = .ok (.return_, 1) := by decide +kernel
set_option maxRecDepth 20000 in
theorem ggX11_nodes_X11_startGraph : GoodIn wsX11_nodes wsX11_startGraph := goodIn_r _ [5, 6, 7, 8, 9, 10, 11, 12, 13, 14, 15, 16, 17, 18, 19, 20, 21, 22, 23, 24, 25, 26, 27, 28, 29, 30, 31, 32, 4, 33, 34, 35, 36, 37, 38, 39, 40, 41, 42, 43, 44, 45, 46, 47, 48, 49, 50, 51, 52, 53, 54, 55, 56, 57, 58] (by decide +kernel) (by decide +kernel)
set_option maxRecDepth 20000 in
theorem gX11_nodes_X11_startGraph : GoodIn wsX11_nodes (wsV RX11 90 RX11 yX11_startGraph wsX11_startGraph) := goodIn_app (goodIn_of _ (by decide +kernel)) ggX11_nodes_X11_startGraph
theorem dX11_nodes_0 : decode cX11_nodes 0 = .ok (.iload_n 1, 1) := by decide +kernel
theorem dX11_nodes_1 : decode cX11_nodes 1 = .ok (.ifCond .lt 9, 3) := by decide +kernel
theorem dX11_nodes_4 : decode cX11_nodes 4 = .ok (.iload_n 1, 1) := by decide +kernel
theorem dX11_nodes_5 : decode cX11_nodes 5 = .ok (.bipush 12, 2) := by decide +kernel
theorem dX11_nodes_7 : decode cX11_nodes 7 = .ok (.if_icmp .le 5, 3) := by decide +kernel
theorem dX11_nodes_10 : decode cX11_nodes 10 = .ok (.iconst (-1), 1) := by decide +kernel
theorem dX11_nodes_11 : decode cX11_nodes 11 = .ok (.ireturn, 1) := by decide +kernel
theorem dX11_nodes_12 : decode cX11_nodes 12 = .ok (.aload_n 0, 1) := by decide +kernel
theorem dX11_nodes_13 : decode cX11_nodes 13 = .ok (.iload_n 1, 1) := by decide +kernel
theorem dX11_nodes_14 : decode cX11_nodes 14 = .ok (.invokevirtual 90, 3) := by decide +kernel
theorem dX11_nodes_17 : decode cX11_nodes 17 = .ok (.iload_n 1, 1) := by decide +kernel
theorem dX11_nodes_18 : decode cX11_nodes 18 = .ok (.ireturn, 1) := by decide +kernel
set_option maxRecDepth 20000 in
theorem ggX11_turn_X4_invert : GoodIn wsX11_turn wsX4_invert := goodIn_r _ [6, 7, 8, 9, 10, 11, 12, 4, 13, 42, 43, 44] (by decide +kernel) (by decide +kernel)
set_option maxRecDepth 20000 in
theorem gX11_turn_X4_invert_n145 : GoodIn wsX11_turn (wsX4_invert) := ggX11_turn_X4_invert
set_option maxRecDepth 20000 in
theorem ggX11_turn_X6_drop : GoodIn wsX11_turn wsX6_drop := goodIn_r _ [17, 18, 45, 46, 47, 48, 49, 50, 51, 52, 53] (by decide +kernel) (by decide +kernel)
set_option maxRecDepth 20000 in
theorem gX11_turn_X6_drop_n105 : GoodIn wsX11_turn (wsX6_drop) := ggX11_turn_X6_drop
set_option maxRecDepth 20000 in
theorem ggX11_turn_X4_pairs : GoodIn wsX11_turn wsX4_pairs := goodIn_r _ [21, 7, 8, 22, 23, 24, 25, 26, 27, 28, 42, 43, 44] (by decide +kernel) (by decide +kernel)
set_option maxRecDepth 20000 in
theorem gX11_turn_X4_pairs_n148 : GoodIn wsX11_turn (wsX4_pairs) := ggX11_turn_X4_pairs
theorem dX11_turn_0 : decode cX11_turn 0 = .ok (.aload_n 0, 1) := by decide +kernel
theorem dX11_turn_1 : decode cX11_turn 1 = .ok (.getfield 10, 3) := by decide +kernel
theorem dX11_turn_4 : decode cX11_turn 4 = .ok (.invokevirtual 145, 3) := by decide +kernel
theorem dX11_turn_7 : decode cX11_turn 7 = .ok (.aload_n 0, 1) := by decide +kernel
theorem dX11_turn_8 : decode cX11_turn 8 = .ok (.getfield 26, 3) := by decide +kernel
theorem dX11_turn_11 : decode cX11_turn 11 = .ok (.invokevirtual 105, 3) := by decide +kernel
theorem dX11_turn_14 : decode cX11_turn 14 = .ok (.aload_n 0, 1) := by decide +kernel
theorem dX11_turn_15 : decode cX11_turn 15 = .ok (.getfield 10, 3) := by decide +kernel
theorem dX11_turn_18 : decode cX11_turn 18 = .ok (.invokevirtual 148, 3) := by decide +kernel
theorem dX11_turn_21 : decode cX11_turn 21 = .ok (.ireturn, 1) := by decide +kernel
set_option maxRecDepth 20000 in
theorem ggX11_columns_X11_found : GoodIn wsX11_columns wsX11_found := goodIn_r _ [6, 7, 8, 20, 21, 22, 23, 24, 25, 26, 27, 28, 29, 30, 31, 32] (by decide +kernel) (by decide +kernel)
set_option maxRecDepth 20000 in
theorem gX11_columns_X11_found : GoodIn wsX11_columns (wsV RX11 114 RX11 yX11_found wsX11_found) := goodIn_app (goodIn_of _ (by decide +kernel)) ggX11_columns_X11_found
set_option maxRecDepth 20000 in
theorem ggX11_columns_X10_restart : GoodIn wsX11_columns wsX10_restart := goodIn_r _ [12, 13, 14, 15, 16, 17, 18, 19, 33, 34, 35] (by decide +kernel) (by decide +kernel)
set_option maxRecDepth 20000 in
theorem gX11_columns_X10_restart_n249 : GoodIn wsX11_columns (wsX10_restart) := ggX11_columns_X10_restart
theorem dX11_columns_0 : decode cX11_columns 0 = .ok (.iload_n 1, 1) := by decide +kernel
theorem dX11_columns_1 : decode cX11_columns 1 = .ok (.bipush 8, 2) := by decide +kernel
theorem dX11_columns_3 : decode cX11_columns 3 = .ok (.if_icmp .le 5, 3) := by decide +kernel
theorem dX11_columns_6 : decode cX11_columns 6 = .ok (.iconst (-1), 1) := by decide +kernel
theorem dX11_columns_7 : decode cX11_columns 7 = .ok (.ireturn, 1) := by decide +kernel
theorem dX11_columns_8 : decode cX11_columns 8 = .ok (.iload_n 1, 1) := by decide +kernel
theorem dX11_columns_9 : decode cX11_columns 9 = .ok (.ifCond .ge 9, 3) := by decide +kernel
theorem dX11_columns_12 : decode cX11_columns 12 = .ok (.aload_n 0, 1) := by decide +kernel
theorem dX11_columns_13 : decode cX11_columns 13 = .ok (.iconst 4, 1) := by decide +kernel
theorem dX11_columns_14 : decode cX11_columns 14 = .ok (.invokevirtual 114, 3) := by decide +kernel
theorem dX11_columns_17 : decode cX11_columns 17 = .ok (.ireturn, 1) := by decide +kernel
theorem dX11_columns_18 : decode cX11_columns 18 = .ok (.aload_n 0, 1) := by decide +kernel
theorem dX11_columns_19 : decode cX11_columns 19 = .ok (.getfield 19, 3) := by decide +kernel
theorem dX11_columns_22 : decode cX11_columns 22 = .ok (.iload_n 1, 1) := by decide +kernel
theorem dX11_columns_23 : decode cX11_columns 23 = .ok (.invokevirtual 249, 3) := by decide +kernel
theorem dX11_columns_26 : decode cX11_columns 26 = .ok (.iload_n 1, 1) := by decide +kernel
theorem dX11_columns_27 : decode cX11_columns 27 = .ok (.ireturn, 1) := by decide +kernel
set_option maxRecDepth 20000 in
theorem ggX11_digest_X11_mix : GoodIn wsX11_digest wsX11_mix := goodIn_r _ [8, 9] (by decide +kernel) (by decide +kernel)
set_option maxRecDepth 20000 in
theorem gX11_digest_X11_mix : GoodIn wsX11_digest (va_wsS RX11 277 yX11_mix wsX11_mix) := goodIn_app (goodIn_of _ (by decide +kernel)) ggX11_digest_X11_mix
set_option maxRecDepth 20000 in
theorem ggX11_digest_X11_mixAll : GoodIn wsX11_digest wsX11_mixAll := goodIn_r _ [12, 5, 6, 7, 8, 9] (by decide +kernel) (by decide +kernel)
set_option maxRecDepth 20000 in
theorem gX11_digest_X11_mixAll : GoodIn wsX11_digest (va_wsS RX11 281 yX11_mixAll wsX11_mixAll) := goodIn_app (goodIn_of _ (by decide +kernel)) ggX11_digest_X11_mixAll
set_option maxRecDepth 20000 in
theorem ggX11_digest_X6_length : GoodIn wsX11_digest wsX6_length := goodIn_r _ [16, 17, 18, 35, 36, 37, 38, 39, 40, 41, 42, 43] (by decide +kernel) (by decide +kernel)
set_option maxRecDepth 20000 in
theorem gX11_digest_X6_length_n181 : GoodIn wsX11_digest (wsX6_length) := ggX11_digest_X6_length
theorem dX11_digest_0 : decode cX11_digest 0 = .ok (.ldc2_w 275, 3) := by decide +kernel
theorem dX11_digest_3 : decode cX11_digest 3 = .ok (.aload_n 0, 1) := by decide +kernel
theorem dX11_digest_4 : decode cX11_digest 4 = .ok (.getfield 10, 3) := by decide +kernel
theorem dX11_digest_7 : decode cX11_digest 7 = .ok (.getfield 142, 3) := by decide +kernel
theorem dX11_digest_10 : decode cX11_digest 10 = .ok (.invokestatic 277, 3) := by decide +kernel
theorem dX11_digest_13 : decode cX11_digest 13 = .ok (.lstore_n 1, 1) := by decide +kernel
theorem dX11_digest_14 : decode cX11_digest 14 = .ok (.lload_n 1, 1) := by decide +kernel
theorem dX11_digest_15 : decode cX11_digest 15 = .ok (.aload_n 0, 1) := by decide +kernel
theorem dX11_digest_16 : decode cX11_digest 16 = .ok (.getfield 10, 3) := by decide +kernel
theorem dX11_digest_19 : decode cX11_digest 19 = .ok (.getfield 108, 3) := by decide +kernel
theorem dX11_digest_22 : decode cX11_digest 22 = .ok (.aload_n 0, 1) := by decide +kernel
theorem dX11_digest_23 : decode cX11_digest 23 = .ok (.getfield 10, 3) := by decide +kernel
theorem dX11_digest_26 : decode cX11_digest 26 = .ok (.getfield 142, 3) := by decide +kernel
theorem dX11_digest_29 : decode cX11_digest 29 = .ok (.invokestatic 281, 3) := by decide +kernel
theorem dX11_digest_32 : decode cX11_digest 32 = .ok (.lstore_n 1, 1) := by decide +kernel
theorem dX11_digest_33 : decode cX11_digest 33 = .ok (.lload_n 1, 1) := by decide +kernel
theorem dX11_digest_34 : decode cX11_digest 34 = .ok (.aload_n 0, 1) := by decide +kernel
theorem dX11_digest_35 : decode cX11_digest 35 = .ok (.getfield 26, 3) := by decide +kernel
theorem dX11_digest_38 : decode cX11_digest 38 = .ok (.getfield 183, 3) := by decide +kernel
theorem dX11_digest_41 : decode cX11_digest 41 = .ok (.aload_n 0, 1) := by decide +kernel
theorem dX11_digest_42 : decode cX11_digest 42 = .ok (.getfield 26, 3) := by decide +kernel
theorem dX11_digest_45 : decode cX11_digest 45 = .ok (.invokevirtual 181, 3) := by decide +kernel
theorem dX11_digest_48 : decode cX11_digest 48 = .ok (.invokestatic 281, 3) := by decide +kernel
theorem dX11_digest_51 : decode cX11_digest 51 = .ok (.lstore_n 1, 1) := by decide +kernel
theorem dX11_digest_52 : decode cX11_digest 52 = .ok (.lload_n 1, 1) := by decide +kernel
theorem dX11_digest_53 : decode cX11_digest 53 = .ok (.aload_n 0, 1) := by decide +kernel
theorem dX11_digest_54 : decode cX11_digest 54 = .ok (.getfield 19, 3) := by decide +kernel
theorem dX11_digest_57 : decode cX11_digest 57 = .ok (.getfield 133, 3) := by decide +kernel
theorem dX11_digest_60 : decode cX11_digest 60 = .ok (.invokestatic 277, 3) := by decide +kernel
theorem dX11_digest_63 : decode cX11_digest 63 = .ok (.lstore_n 1, 1) := by decide +kernel
theorem dX11_digest_64 : decode cX11_digest 64 = .ok (.lload_n 1, 1) := by decide +kernel
theorem dX11_digest_65 : decode cX11_digest 65 = .ok (.aload_n 0, 1) := by decide +kernel
theorem dX11_digest_66 : decode cX11_digest 66 = .ok (.getfield 19, 3) := by decide +kernel
theorem dX11_digest_69 : decode cX11_digest 69 = .ok (.getfield 136, 3) := by decide +kernel
theorem dX11_digest_72 : decode cX11_digest 72 = .ok (.bipush 12, 2) := by decide +kernel
theorem dX11_digest_74 : decode cX11_digest 74 = .ok (.invokestatic 281, 3) := by decide +kernel
theorem dX11_digest_77 : decode cX11_digest 77 = .ok (.lstore_n 1, 1) := by decide +kernel
theorem dX11_digest_78 : decode cX11_digest 78 = .ok (.lload_n 1, 1) := by decide +kernel
theorem dX11_digest_79 : decode cX11_digest 79 = .ok (.aload_n 0, 1) := by decide +kernel
theorem dX11_digest_80 : decode cX11_digest 80 = .ok (.getfield 26, 3) := by decide +kernel
theorem dX11_digest_83 : decode cX11_digest 83 = .ok (.getfield 285, 3) := by decide +kernel
theorem dX11_digest_86 : decode cX11_digest 86 = .ok (.aload_n 0, 1) := by decide +kernel
theorem dX11_digest_87 : decode cX11_digest 87 = .ok (.getfield 26, 3) := by decide +kernel
theorem dX11_digest_90 : decode cX11_digest 90 = .ok (.getfield 158, 3) := by decide +kernel
theorem dX11_digest_93 : decode cX11_digest 93 = .ok (.invokestatic 281, 3) := by decide +kernel
theorem dX11_digest_96 : decode cX11_digest 96 = .ok (.lreturn, 1) := by decide +kernel
theorem dX11_mix_0 : decode cX11_mix 0 = .ok (.ldc2_w 288, 3) := by decide +kernel
theorem dX11_mix_3 : decode cX11_mix 3 = .ok (.lload_n 0, 1) := by decide +kernel
theorem dX11_mix_4 : decode cX11_mix 4 = .ok (.lmul, 1) := by decide +kernel
theorem dX11_mix_5 : decode cX11_mix 5 = .ok (.iload_n 2, 1) := by decide +kernel
theorem dX11_mix_6 : decode cX11_mix 6 = .ok (.i2l, 1) := by decide +kernel
theorem dX11_mix_7 : decode cX11_mix 7 = .ok (.ladd, 1) := by decide +kernel
theorem dX11_mix_8 : decode cX11_mix 8 = .ok (.lreturn, 1) := by decide +kernel
set_option maxRecDepth 20000 in
theorem ggX11_mixAll_X11_mix : GoodIn wsX11_mixAll wsX11_mix := goodIn_r _ [4, 5] (by decide +kernel) (by decide +kernel)
set_option maxRecDepth 20000 in
theorem gX11_mixAll_X11_mix : GoodIn wsX11_mixAll (va_wsS RX11 277 yX11_mix wsX11_mix) := goodIn_app (goodIn_of _ (by decide +kernel)) ggX11_mixAll_X11_mix
theorem dX11_mixAll_0 : decode cX11_mixAll 0 = .ok (.lload_n 0, 1) := by decide +kernel
theorem dX11_mixAll_1 : decode cX11_mixAll 1 = .ok (.lstore 4, 2) := by decide +kernel
theorem dX11_mixAll_3 : decode cX11_mixAll 3 = .ok (.iconst 0, 1) := by decide +kernel
theorem dX11_mixAll_4 : decode cX11_mixAll 4 = .ok (.istore 6, 2) := by decide +kernel
theorem dX11_mixAll_6 : decode cX11_mixAll 6 = .ok (.iload 6, 2) := by decide +kernel
theorem dX11_mixAll_8 : decode cX11_mixAll 8 = .ok (.iload_n 3, 1) := by decide +kernel
theorem dX11_mixAll_9 : decode cX11_mixAll 9 = .ok (.if_icmp .ge 27, 3) := by decide +kernel
theorem dX11_mixAll_12 : decode cX11_mixAll 12 = .ok (.iload 6, 2) := by decide +kernel
theorem dX11_mixAll_14 : decode cX11_mixAll 14 = .ok (.aload_n 2, 1) := by decide +kernel
theorem dX11_mixAll_15 : decode cX11_mixAll 15 = .ok (.arraylength, 1) := by decide +kernel
theorem dX11_mixAll_16 : decode cX11_mixAll 16 = .ok (.if_icmp .ge 20, 3) := by decide +kernel
theorem dX11_mixAll_19 : decode cX11_mixAll 19 = .ok (.lload 4, 2) := by decide +kernel
theorem dX11_mixAll_21 : decode cX11_mixAll 21 = .ok (.aload_n 2, 1) := by decide +kernel
theorem dX11_mixAll_22 : decode cX11_mixAll 22 = .ok (.iload 6, 2) := by decide +kernel
theorem dX11_mixAll_24 : decode cX11_mixAll 24 = .ok (.iaload, 1) := by decide +kernel
theorem dX11_mixAll_25 : decode cX11_mixAll 25 = .ok (.invokestatic 277, 3) := by decide +kernel
theorem dX11_mixAll_28 : decode cX11_mixAll 28 = .ok (.lstore 4, 2) := by decide +kernel
theorem dX11_mixAll_30 : decode cX11_mixAll 30 = .ok (.iinc 6 1, 3) := by decide +kernel
theorem dX11_mixAll_33 : decode cX11_mixAll 33 = .ok (.goto (-27), 3) := by decide +kernel
theorem dX11_mixAll_36 : decode cX11_mixAll 36 = .ok (.lload 4, 2) := by decide +kernel
theorem dX11_mixAll_38 : decode cX11_mixAll 38 = .ok (.lreturn, 1) := by decide +kernel
theorem dX11_found_0 : decode cX11_found 0 = .ok (.aload_n 0, 1) := by decide +kernel
theorem dX11_found_1 : decode cX11_found 1 = .ok (.iload_n 1, 1) := by decide +kernel
theorem dX11_found_2 : decode cX11_found 2 = .ok (.putfield 86, 3) := by decide +kernel
theorem dX11_found_5 : decode cX11_found 5 = .ok (.aload_n 0, 1) := by decide +kernel
theorem dX11_found_6 : decode cX11_found 6 = .ok (.getfield 82, 3) := by decide +kernel
theorem dX11_found_9 : decode cX11_found 9 = .ok (.iload_n 1, 1) := by decide +kernel
theorem dX11_found_10 : decode cX11_found 10 = .ok (.dup2, 1) := by decide +kernel
theorem dX11_found_11 : decode cX11_found 11 = .ok (.iaload, 1) := by decide +kernel
theorem dX11_found_12 : decode cX11_found 12 = .ok (.iconst 1, 1) := by decide +kernel
theorem dX11_found_13 : decode cX11_found 13 = .ok (.iadd, 1) := by decide +kernel
theorem dX11_found_14 : decode cX11_found 14 = .ok (.iastore, 1) := by decide +kernel
theorem dX11_found_15 : decode cX11_found 15 = .ok (.bipush (-3), 2) := by decide +kernel
theorem dX11_found_17 : decode cX11_found 17 = .ok (.ireturn, 1) := by decide +kernel
set_option maxRecDepth 20000 in
theorem ggX11_startGraph_X4_restart : GoodIn wsX11_startGraph wsX4_restart := goodIn_r _ [6, 7, 8, 9, 10, 11, 12, 13, 43, 44, 45] (by decide +kernel) (by decide +kernel)
set_option maxRecDepth 20000 in
theorem gX11_startGraph_X4_restart_n290 : GoodIn wsX11_startGraph (wsX4_restart) := ggX11_startGraph_X4_restart
set_option maxRecDepth 20000 in
theorem ggX11_startGraph_X6_drop : GoodIn wsX11_startGraph wsX6_drop := goodIn_r _ [17, 18, 46, 47, 48, 49, 50, 51, 52, 53, 54] (by decide +kernel) (by decide +kernel)
set_option maxRecDepth 20000 in
theorem gX11_startGraph_X6_drop_n105 : GoodIn wsX11_startGraph (wsX6_drop) := ggX11_startGraph_X6_drop
set_option maxRecDepth 20000 in
theorem ggX11_startGraph_X4_all : GoodIn wsX11_startGraph wsX4_all := goodIn_r _ [21, 7, 43, 44, 45] (by decide +kernel) (by decide +kernel)
set_option maxRecDepth 20000 in
theorem gX11_startGraph_X4_all_n164 : GoodIn wsX11_startGraph (wsX4_all) := ggX11_startGraph_X4_all
set_option maxRecDepth 20000 in
theorem ggX11_startGraph_X6_keepDrafted : GoodIn wsX11_startGraph wsX6_keepDrafted := goodIn_r _ [24, 25, 26, 27, 28, 29, 46, 47, 48, 49, 50, 51, 52, 53, 54] (by decide +kernel) (by decide +kernel)
set_option maxRecDepth 20000 in
theorem gX11_startGraph_X6_keepDrafted_n291 : GoodIn wsX11_startGraph (wsX6_keepDrafted) := ggX11_startGraph_X6_keepDrafted
theorem dX11_startGraph_0 : decode cX11_startGraph 0 = .ok (.aload_n 0, 1) := by decide +kernel
theorem dX11_startGraph_1 : decode cX11_startGraph 1 = .ok (.getfield 10, 3) := by decide +kernel
theorem dX11_startGraph_4 : decode cX11_startGraph 4 = .ok (.iload_n 1, 1) := by decide +kernel
theorem dX11_startGraph_5 : decode cX11_startGraph 5 = .ok (.invokevirtual 290, 3) := by decide +kernel
theorem dX11_startGraph_8 : decode cX11_startGraph 8 = .ok (.aload_n 0, 1) := by decide +kernel
theorem dX11_startGraph_9 : decode cX11_startGraph 9 = .ok (.getfield 26, 3) := by decide +kernel
theorem dX11_startGraph_12 : decode cX11_startGraph 12 = .ok (.invokevirtual 105, 3) := by decide +kernel
theorem dX11_startGraph_15 : decode cX11_startGraph 15 = .ok (.aload_n 0, 1) := by decide +kernel
theorem dX11_startGraph_16 : decode cX11_startGraph 16 = .ok (.getfield 26, 3) := by decide +kernel
theorem dX11_startGraph_19 : decode cX11_startGraph 19 = .ok (.aload_n 0, 1) := by decide +kernel
theorem dX11_startGraph_20 : decode cX11_startGraph 20 = .ok (.getfield 10, 3) := by decide +kernel
theorem dX11_startGraph_23 : decode cX11_startGraph 23 = .ok (.invokevirtual 164, 3) := by decide +kernel
theorem dX11_startGraph_26 : decode cX11_startGraph 26 = .ok (.invokevirtual 291, 3) := by decide +kernel
theorem dX11_startGraph_29 : decode cX11_startGraph 29 = .ok (.return_, 1) := by decide +kernel
theorem dX11_in_0 : decode cX11_in 0 = .ok (.iload_n 0, 1) := by decide +kernel
theorem dX11_in_1 : decode cX11_in 1 = .ok (.iload_n 1, 1) := by decide +kernel
theorem dX11_in_2 : decode cX11_in 2 = .ok (.ishr, 1) := by decide +kernel
theorem dX11_in_3 : decode cX11_in 3 = .ok (.iconst 1, 1) := by decide +kernel
theorem dX11_in_4 : decode cX11_in 4 = .ok (.iand, 1) := by decide +kernel
theorem dX11_in_5 : decode cX11_in 5 = .ok (.ifCond .eq 7, 3) := by decide +kernel
theorem dX11_in_8 : decode cX11_in 8 = .ok (.iconst 1, 1) := by decide +kernel
theorem dX11_in_9 : decode cX11_in 9 = .ok (.goto 4, 3) := by decide +kernel
theorem dX11_in_12 : decode cX11_in 12 = .ok (.iconst 0, 1) := by decide +kernel
theorem dX11_in_13 : decode cX11_in 13 = .ok (.ireturn, 1) := by decide +kernel
theorem dJ6_bitCount_0f7a4_0 : decode cJ6_bitCount_0f7a4 0 = .ok (.iload_n 0, 1) := by decide +kernel
theorem dJ6_bitCount_0f7a4_1 : decode cJ6_bitCount_0f7a4 1 = .ok (.iload_n 0, 1) := by decide +kernel
theorem dJ6_bitCount_0f7a4_2 : decode cJ6_bitCount_0f7a4 2 = .ok (.iconst 1, 1) := by decide +kernel
theorem dJ6_bitCount_0f7a4_3 : decode cJ6_bitCount_0f7a4 3 = .ok (.iushr, 1) := by decide +kernel
theorem dJ6_bitCount_0f7a4_4 : decode cJ6_bitCount_0f7a4 4 = .ok (.ldc_w 265, 3) := by decide +kernel
theorem dJ6_bitCount_0f7a4_7 : decode cJ6_bitCount_0f7a4 7 = .ok (.iand, 1) := by decide +kernel
theorem dJ6_bitCount_0f7a4_8 : decode cJ6_bitCount_0f7a4 8 = .ok (.isub, 1) := by decide +kernel
theorem dJ6_bitCount_0f7a4_9 : decode cJ6_bitCount_0f7a4 9 = .ok (.istore_n 0, 1) := by decide +kernel
theorem dJ6_bitCount_0f7a4_10 : decode cJ6_bitCount_0f7a4 10 = .ok (.iload_n 0, 1) := by decide +kernel
theorem dJ6_bitCount_0f7a4_11 : decode cJ6_bitCount_0f7a4 11 = .ok (.ldc_w 266, 3) := by decide +kernel
theorem dJ6_bitCount_0f7a4_14 : decode cJ6_bitCount_0f7a4 14 = .ok (.iand, 1) := by decide +kernel
theorem dJ6_bitCount_0f7a4_15 : decode cJ6_bitCount_0f7a4 15 = .ok (.iload_n 0, 1) := by decide +kernel
theorem dJ6_bitCount_0f7a4_16 : decode cJ6_bitCount_0f7a4 16 = .ok (.iconst 2, 1) := by decide +kernel
theorem dJ6_bitCount_0f7a4_17 : decode cJ6_bitCount_0f7a4 17 = .ok (.iushr, 1) := by decide +kernel
theorem dJ6_bitCount_0f7a4_18 : decode cJ6_bitCount_0f7a4 18 = .ok (.ldc_w 266, 3) := by decide +kernel
theorem dJ6_bitCount_0f7a4_21 : decode cJ6_bitCount_0f7a4 21 = .ok (.iand, 1) := by decide +kernel
theorem dJ6_bitCount_0f7a4_22 : decode cJ6_bitCount_0f7a4 22 = .ok (.iadd, 1) := by decide +kernel
theorem dJ6_bitCount_0f7a4_23 : decode cJ6_bitCount_0f7a4 23 = .ok (.istore_n 0, 1) := by decide +kernel
theorem dJ6_bitCount_0f7a4_24 : decode cJ6_bitCount_0f7a4 24 = .ok (.iload_n 0, 1) := by decide +kernel
theorem dJ6_bitCount_0f7a4_25 : decode cJ6_bitCount_0f7a4 25 = .ok (.iload_n 0, 1) := by decide +kernel
theorem dJ6_bitCount_0f7a4_26 : decode cJ6_bitCount_0f7a4 26 = .ok (.iconst 4, 1) := by decide +kernel
theorem dJ6_bitCount_0f7a4_27 : decode cJ6_bitCount_0f7a4 27 = .ok (.iushr, 1) := by decide +kernel
theorem dJ6_bitCount_0f7a4_28 : decode cJ6_bitCount_0f7a4 28 = .ok (.iadd, 1) := by decide +kernel
theorem dJ6_bitCount_0f7a4_29 : decode cJ6_bitCount_0f7a4 29 = .ok (.ldc_w 267, 3) := by decide +kernel
theorem dJ6_bitCount_0f7a4_32 : decode cJ6_bitCount_0f7a4 32 = .ok (.iand, 1) := by decide +kernel
theorem dJ6_bitCount_0f7a4_33 : decode cJ6_bitCount_0f7a4 33 = .ok (.istore_n 0, 1) := by decide +kernel
theorem dJ6_bitCount_0f7a4_34 : decode cJ6_bitCount_0f7a4 34 = .ok (.iload_n 0, 1) := by decide +kernel
theorem dJ6_bitCount_0f7a4_35 : decode cJ6_bitCount_0f7a4 35 = .ok (.iload_n 0, 1) := by decide +kernel
theorem dJ6_bitCount_0f7a4_36 : decode cJ6_bitCount_0f7a4 36 = .ok (.bipush 8, 2) := by decide +kernel
theorem dJ6_bitCount_0f7a4_38 : decode cJ6_bitCount_0f7a4 38 = .ok (.iushr, 1) := by decide +kernel
theorem dJ6_bitCount_0f7a4_39 : decode cJ6_bitCount_0f7a4 39 = .ok (.iadd, 1) := by decide +kernel
theorem dJ6_bitCount_0f7a4_40 : decode cJ6_bitCount_0f7a4 40 = .ok (.istore_n 0, 1) := by decide +kernel
theorem dJ6_bitCount_0f7a4_41 : decode cJ6_bitCount_0f7a4 41 = .ok (.iload_n 0, 1) := by decide +kernel
theorem dJ6_bitCount_0f7a4_42 : decode cJ6_bitCount_0f7a4 42 = .ok (.iload_n 0, 1) := by decide +kernel
theorem dJ6_bitCount_0f7a4_43 : decode cJ6_bitCount_0f7a4 43 = .ok (.bipush 16, 2) := by decide +kernel
theorem dJ6_bitCount_0f7a4_45 : decode cJ6_bitCount_0f7a4 45 = .ok (.iushr, 1) := by decide +kernel
theorem dJ6_bitCount_0f7a4_46 : decode cJ6_bitCount_0f7a4 46 = .ok (.iadd, 1) := by decide +kernel
theorem dJ6_bitCount_0f7a4_47 : decode cJ6_bitCount_0f7a4 47 = .ok (.istore_n 0, 1) := by decide +kernel
theorem dJ6_bitCount_0f7a4_48 : decode cJ6_bitCount_0f7a4 48 = .ok (.iload_n 0, 1) := by decide +kernel
theorem dJ6_bitCount_0f7a4_49 : decode cJ6_bitCount_0f7a4 49 = .ok (.bipush 63, 2) := by decide +kernel
theorem dJ6_bitCount_0f7a4_51 : decode cJ6_bitCount_0f7a4 51 = .ok (.iand, 1) := by decide +kernel
theorem dJ6_bitCount_0f7a4_52 : decode cJ6_bitCount_0f7a4 52 = .ok (.ireturn, 1) := by decide +kernel
theorem dJ7_fill_53178_0 : decode cJ7_fill_53178 0 = .ok (.iconst 0, 1) := by decide +kernel
theorem dJ7_fill_53178_1 : decode cJ7_fill_53178 1 = .ok (.istore_n 2, 1) := by decide +kernel
theorem dJ7_fill_53178_2 : decode cJ7_fill_53178 2 = .ok (.aload_n 0, 1) := by decide +kernel
theorem dJ7_fill_53178_3 : decode cJ7_fill_53178 3 = .ok (.arraylength, 1) := by decide +kernel
theorem dJ7_fill_53178_4 : decode cJ7_fill_53178 4 = .ok (.istore_n 3, 1) := by decide +kernel
theorem dJ7_fill_53178_5 : decode cJ7_fill_53178 5 = .ok (.iload_n 2, 1) := by decide +kernel
theorem dJ7_fill_53178_6 : decode cJ7_fill_53178 6 = .ok (.iload_n 3, 1) := by decide +kernel
theorem dJ7_fill_53178_7 : decode cJ7_fill_53178 7 = .ok (.if_icmp .ge 13, 3) := by decide +kernel
theorem dJ7_fill_53178_10 : decode cJ7_fill_53178 10 = .ok (.aload_n 0, 1) := by decide +kernel
theorem dJ7_fill_53178_11 : decode cJ7_fill_53178 11 = .ok (.iload_n 2, 1) := by decide +kernel
theorem dJ7_fill_53178_12 : decode cJ7_fill_53178 12 = .ok (.iload_n 1, 1) := by decide +kernel
theorem dJ7_fill_53178_13 : decode cJ7_fill_53178 13 = .ok (.iastore, 1) := by decide +kernel
theorem dJ7_fill_53178_14 : decode cJ7_fill_53178 14 = .ok (.iinc 2 1, 3) := by decide +kernel
theorem dJ7_fill_53178_17 : decode cJ7_fill_53178 17 = .ok (.goto (-12), 3) := by decide +kernel
theorem dJ7_fill_53178_20 : decode cJ7_fill_53178 20 = .ok (.return_, 1) := by decide +kernel
