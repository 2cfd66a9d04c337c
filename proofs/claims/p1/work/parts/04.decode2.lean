theorem dX11_nodes_10 : decode cX11_nodes 10 = .ok (.iconst (-1), 1) := by decide +kernel
theorem dX11_nodes_11 : decode cX11_nodes 11 = .ok (.ireturn, 1) := by decide +kernel
theorem dX11_nodes_12 : decode cX11_nodes 12 = .ok (.aload_n 0, 1) := by decide +kernel
theorem dX11_nodes_13 : decode cX11_nodes 13 = .ok (.iload_n 1, 1) := by decide +kernel
theorem dX11_nodes_14 : decode cX11_nodes 14 = .ok (.invokevirtual 90, 3) := by decide +kernel
theorem dX11_nodes_17 : decode cX11_nodes 17 = .ok (.iload_n 1, 1) := by decide +kernel
theorem dX11_nodes_18 : decode cX11_nodes 18 = .ok (.ireturn, 1) := by decide +kernel
set_option maxRecDepth 20000 in
theorem ggX11_join_X4_has : GoodIn wsX11_join wsX4_has := goodIn_r _ [6, 7, 37, 38, 39] (by decide +kernel) (by decide +kernel)
set_option maxRecDepth 20000 in
theorem gX11_join_X4_has_n93 : GoodIn wsX11_join (wsX4_has) := ggX11_join_X4_has
theorem dX11_join_0 : decode cX11_join 0 = .ok (.aload_n 0, 1) := by decide +kernel
theorem dX11_join_1 : decode cX11_join 1 = .ok (.getfield 10, 3) := by decide +kernel
theorem dX11_join_4 : decode cX11_join 4 = .ok (.iload_n 1, 1) := by decide +kernel
theorem dX11_join_5 : decode cX11_join 5 = .ok (.invokevirtual 93, 3) := by decide +kernel
theorem dX11_join_8 : decode cX11_join 8 = .ok (.ifCond .eq 19, 3) := by decide +kernel
theorem dX11_join_27 : decode cX11_join 27 = .ok (.iconst (-1), 1) := by decide +kernel
theorem dX11_join_28 : decode cX11_join 28 = .ok (.ireturn, 1) := by decide +kernel
set_option maxRecDepth 20000 in
theorem ggX11_joined_X4_has : GoodIn wsX11_joined wsX4_has := goodIn_r _ [5, 6, 20, 21, 22] (by decide +kernel) (by decide +kernel)
set_option maxRecDepth 20000 in
theorem gX11_joined_X4_has_n93 : GoodIn wsX11_joined (wsX4_has) := ggX11_joined_X4_has
theorem dX11_joined_0 : decode cX11_joined 0 = .ok (.aload_n 0, 1) := by decide +kernel
theorem dX11_joined_1 : decode cX11_joined 1 = .ok (.getfield 10, 3) := by decide +kernel
theorem dX11_joined_4 : decode cX11_joined 4 = .ok (.iload_n 1, 1) := by decide +kernel
theorem dX11_joined_5 : decode cX11_joined 5 = .ok (.invokevirtual 93, 3) := by decide +kernel
theorem dX11_joined_8 : decode cX11_joined 8 = .ok (.ifCond .eq 15, 3) := by decide +kernel
theorem dX11_joined_23 : decode cX11_joined 23 = .ok (.iconst (-1), 1) := by decide +kernel
theorem dX11_joined_24 : decode cX11_joined 24 = .ok (.ireturn, 1) := by decide +kernel
set_option maxRecDepth 20000 in
theorem ggX11_kind_X4_has : GoodIn wsX11_kind wsX4_has := goodIn_r _ [5, 6, 34, 35, 36] (by decide +kernel) (by decide +kernel)
set_option maxRecDepth 20000 in
theorem gX11_kind_X4_has_n93 : GoodIn wsX11_kind (wsX4_has) := ggX11_kind_X4_has
theorem dX11_kind_0 : decode cX11_kind 0 = .ok (.aload_n 0, 1) := by decide +kernel
theorem dX11_kind_1 : decode cX11_kind 1 = .ok (.getfield 10, 3) := by decide +kernel
theorem dX11_kind_4 : decode cX11_kind 4 = .ok (.iload_n 1, 1) := by decide +kernel
theorem dX11_kind_5 : decode cX11_kind 5 = .ok (.invokevirtual 93, 3) := by decide +kernel
theorem dX11_kind_8 : decode cX11_kind 8 = .ok (.ifCond .ne 5, 3) := by decide +kernel
theorem dX11_kind_11 : decode cX11_kind 11 = .ok (.iconst (-1), 1) := by decide +kernel
theorem dX11_kind_12 : decode cX11_kind 12 = .ok (.ireturn, 1) := by decide +kernel
set_option maxRecDepth 20000 in
theorem ggX11_degree_X4_has : GoodIn wsX11_degree wsX4_has := goodIn_r _ [5, 6, 47, 48, 49] (by decide +kernel) (by decide +kernel)
set_option maxRecDepth 20000 in
theorem gX11_degree_X4_has_n93 : GoodIn wsX11_degree (wsX4_has) := ggX11_degree_X4_has
theorem dX11_degree_0 : decode cX11_degree 0 = .ok (.aload_n 0, 1) := by decide +kernel
theorem dX11_degree_1 : decode cX11_degree 1 = .ok (.getfield 10, 3) := by decide +kernel
theorem dX11_degree_4 : decode cX11_degree 4 = .ok (.iload_n 1, 1) := by decide +kernel
theorem dX11_degree_5 : decode cX11_degree 5 = .ok (.invokevirtual 93, 3) := by decide +kernel
theorem dX11_degree_8 : decode cX11_degree 8 = .ok (.ifCond .eq 12, 3) := by decide +kernel
theorem dX11_degree_20 : decode cX11_degree 20 = .ok (.iconst (-1), 1) := by decide +kernel
theorem dX11_degree_21 : decode cX11_degree 21 = .ok (.ireturn, 1) := by decide +kernel
set_option maxRecDepth 20000 in
theorem ggX11_sound_X9_bring : GoodIn wsX11_sound wsX9_bring := goodIn_r _ [6, 7, 8, 9, 10, 11, 12, 13, 14, 15, 16, 17, 18, 19, 20, 21, 22, 23, 24, 25, 26, 27, 28, 29, 30, 31, 32, 33, 34, 35, 36, 37, 38, 39, 40, 41, 42, 43, 44, 45, 46, 47, 48, 49, 50, 51, 52, 53, 4, 54, 55, 56, 57, 58, 59, 60, 61, 62, 63, 64, 65, 79, 80, 81, 82, 83, 84, 85, 86, 87] (by decide +kernel) (by decide +kernel)
set_option maxRecDepth 20000 in
theorem gX11_sound_X9_bring_n123 : GoodIn wsX11_sound (wsX9_bring) := ggX11_sound_X9_bring
theorem dX11_sound_0 : decode cX11_sound 0 = .ok (.aload_n 0, 1) := by decide +kernel
theorem dX11_sound_1 : decode cX11_sound 1 = .ok (.getfield 33, 3) := by decide +kernel
theorem dX11_sound_4 : decode cX11_sound 4 = .ok (.aload_n 0, 1) := by decide +kernel
theorem dX11_sound_5 : decode cX11_sound 5 = .ok (.getfield 10, 3) := by decide +kernel
theorem dX11_sound_8 : decode cX11_sound 8 = .ok (.invokevirtual 123, 3) := by decide +kernel
theorem dX11_sound_11 : decode cX11_sound 11 = .ok (.aload_n 0, 1) := by decide +kernel
theorem dX11_sound_12 : decode cX11_sound 12 = .ok (.getfield 33, 3) := by decide +kernel
theorem dX11_sound_15 : decode cX11_sound 15 = .ok (.getfield 127, 3) := by decide +kernel
theorem dX11_sound_18 : decode cX11_sound 18 = .ok (.ifCond .ne 7, 3) := by decide +kernel
theorem dX11_sound_21 : decode cX11_sound 21 = .ok (.iconst 1, 1) := by decide +kernel
theorem dX11_sound_22 : decode cX11_sound 22 = .ok (.goto 4, 3) := by decide +kernel
theorem dX11_sound_26 : decode cX11_sound 26 = .ok (.ireturn, 1) := by decide +kernel
set_option maxRecDepth 20000 in
theorem ggX11_hole_X9_bring : GoodIn wsX11_hole wsX9_bring := goodIn_r _ [6, 7, 8, 9, 10, 11, 12, 13, 14, 15, 16, 17, 18, 19, 20, 21, 22, 23, 24, 25, 26, 27, 28, 29, 30, 31, 32, 33, 34, 35, 36, 37, 38, 39, 40, 41, 42, 43, 44, 45, 46, 47, 48, 49, 50, 51, 52, 53, 4, 54, 55, 56, 57, 58, 59, 60, 61, 62, 63, 64, 65, 79, 80, 81, 82, 83, 84, 85, 86, 87] (by decide +kernel) (by decide +kernel)
set_option maxRecDepth 20000 in
theorem gX11_hole_X9_bring_n123 : GoodIn wsX11_hole (wsX9_bring) := ggX11_hole_X9_bring
theorem dX11_hole_0 : decode cX11_hole 0 = .ok (.aload_n 0, 1) := by decide +kernel
theorem dX11_hole_1 : decode cX11_hole 1 = .ok (.getfield 33, 3) := by decide +kernel
theorem dX11_hole_4 : decode cX11_hole 4 = .ok (.aload_n 0, 1) := by decide +kernel
theorem dX11_hole_5 : decode cX11_hole 5 = .ok (.getfield 10, 3) := by decide +kernel
theorem dX11_hole_8 : decode cX11_hole 8 = .ok (.invokevirtual 123, 3) := by decide +kernel
theorem dX11_hole_11 : decode cX11_hole 11 = .ok (.iload_n 1, 1) := by decide +kernel
theorem dX11_hole_12 : decode cX11_hole 12 = .ok (.ifCond .lt 26, 3) := by decide +kernel
theorem dX11_hole_15 : decode cX11_hole 15 = .ok (.iload_n 1, 1) := by decide +kernel
theorem dX11_hole_16 : decode cX11_hole 16 = .ok (.aload_n 0, 1) := by decide +kernel
theorem dX11_hole_17 : decode cX11_hole 17 = .ok (.getfield 33, 3) := by decide +kernel
theorem dX11_hole_20 : decode cX11_hole 20 = .ok (.getfield 127, 3) := by decide +kernel
theorem dX11_hole_23 : decode cX11_hole 23 = .ok (.if_icmp .ge 15, 3) := by decide +kernel
theorem dX11_hole_38 : decode cX11_hole 38 = .ok (.bipush (-9), 2) := by decide +kernel
theorem dX11_hole_40 : decode cX11_hole 40 = .ok (.ireturn, 1) := by decide +kernel
set_option maxRecDepth 20000 in
theorem ggX11_fromTable_X11_startGraph : GoodIn wsX11_fromTable wsX11_startGraph := goodIn_r _ [7, 2, 8, 9, 10, 11, 12, 13, 14, 15, 16, 17, 18, 19, 20, 21, 22, 23, 24, 25, 26, 27, 28, 29, 30, 31, 32, 33, 6, 34, 38, 39, 40, 41, 42, 43, 44, 45, 46, 47, 48, 49, 50, 54, 55, 56, 57, 58, 59, 60, 61, 62, 63, 64, 65] (by decide +kernel) (by decide +kernel)
set_option maxRecDepth 20000 in
theorem gX11_fromTable_X11_startGraph : GoodIn wsX11_fromTable (wsV RX11 90 RX11 yX11_startGraph wsX11_startGraph) := goodIn_app (goodIn_of _ (by decide +kernel)) ggX11_fromTable_X11_startGraph
theorem dX11_fromTable_0 : decode cX11_fromTable 0 = .ok (.aload_n 0, 1) := by decide +kernel
theorem dX11_fromTable_1 : decode cX11_fromTable 1 = .ok (.aload_n 0, 1) := by decide +kernel
theorem dX11_fromTable_2 : decode cX11_fromTable 2 = .ok (.getfield 19, 3) := by decide +kernel
theorem dX11_fromTable_5 : decode cX11_fromTable 5 = .ok (.getfield 133, 3) := by decide +kernel
theorem dX11_fromTable_8 : decode cX11_fromTable 8 = .ok (.invokevirtual 90, 3) := by decide +kernel
theorem dX11_fromTable_11 : decode cX11_fromTable 11 = .ok (.iconst 0, 1) := by decide +kernel
theorem dX11_fromTable_12 : decode cX11_fromTable 12 = .ok (.istore_n 1, 1) := by decide +kernel
theorem dX11_fromTable_13 : decode cX11_fromTable 13 = .ok (.iload_n 1, 1) := by decide +kernel
theorem dX11_fromTable_14 : decode cX11_fromTable 14 = .ok (.bipush 12, 2) := by decide +kernel
theorem dX11_fromTable_16 : decode cX11_fromTable 16 = .ok (.if_icmp .ge 38, 3) := by decide +kernel
theorem dX11_fromTable_19 : decode cX11_fromTable 19 = .ok (.aload_n 0, 1) := by decide +kernel
theorem dX11_fromTable_20 : decode cX11_fromTable 20 = .ok (.getfield 19, 3) := by decide +kernel
theorem dX11_fromTable_23 : decode cX11_fromTable 23 = .ok (.getfield 136, 3) := by decide +kernel
theorem dX11_fromTable_26 : decode cX11_fromTable 26 = .ok (.iload_n 1, 1) := by decide +kernel
theorem dX11_fromTable_27 : decode cX11_fromTable 27 = .ok (.iaload, 1) := by decide +kernel
theorem dX11_fromTable_28 : decode cX11_fromTable 28 = .ok (.iconst (-1), 1) := by decide +kernel
theorem dX11_fromTable_29 : decode cX11_fromTable 29 = .ok (.if_icmp .eq 19, 3) := by decide +kernel
theorem dX11_fromTable_48 : decode cX11_fromTable 48 = .ok (.iinc 1 1, 3) := by decide +kernel
theorem dX11_fromTable_51 : decode cX11_fromTable 51 = .ok (.goto (-38), 3) := by decide +kernel
theorem dX11_fromTable_54 : decode cX11_fromTable 54 = .ok (.aload_n 0, 1) := by decide +kernel
theorem dX11_fromTable_55 : decode cX11_fromTable 55 = .ok (.getfield 10, 3) := by decide +kernel
theorem dX11_fromTable_58 : decode cX11_fromTable 58 = .ok (.getfield 142, 3) := by decide +kernel
theorem dX11_fromTable_61 : decode cX11_fromTable 61 = .ok (.ireturn, 1) := by decide +kernel
set_option maxRecDepth 20000 in
theorem ggX11_turn_X4_invert : GoodIn wsX11_turn wsX4_invert := goodIn_r _ [6, 7, 8, 9, 10, 11, 12, 4, 13, 42, 43, 44] (by decide +kernel) (by decide +kernel)
set_option maxRecDepth 20000 in
theorem gX11_turn_X4_invert_n145 : GoodIn wsX11_turn (wsX4_invert) := ggX11_turn_X4_invert
set_option maxRecDepth 20000 in
theorem ggX11_turn_X6_drop : GoodIn wsX11_turn wsX6_drop := goodIn_r _ [17, 18, 45, 46, 47, 48, 49, 50, 51, 52, 53] (by decide +kernel) (by decide +kernel)
set_option maxRecDepth 20000 in
theorem gX11_turn_X6_drop_n105 : GoodIn wsX11_turn (wsX6_drop) := ggX11_turn_X6_drop
set_option maxRecDepth 20000 in
theorem ggX11_turn_X4_pairs : GoodIn wsX11_turn wsX4_pairs := goodIn_r _ [21, 7, 8, 22, 23, 24, 25, 26, 27, 28, 42, 43, 44] (by decide +kernel) (by decide +kernel)
set_option maxRecDepth 20000 in
theorem gX11_turn_X4_pairs_n148 : GoodIn wsX11_turn (wsX4_pairs) := ggX11_turn_X4_pairs
theorem dX11_turn_0 : decode cX11_turn 0 = .ok (.aload_n 0, 1) := by decide +kernel
theorem dX11_turn_1 : decode cX11_turn 1 = .ok (.getfield 10, 3) := by decide +kernel
theorem dX11_turn_4 : decode cX11_turn 4 = .ok (.invokevirtual 145, 3) := by decide +kernel
theorem dX11_turn_7 : decode cX11_turn 7 = .ok (.aload_n 0, 1) := by decide +kernel
theorem dX11_turn_8 : decode cX11_turn 8 = .ok (.getfield 26, 3) := by decide +kernel
theorem dX11_turn_11 : decode cX11_turn 11 = .ok (.invokevirtual 105, 3) := by decide +kernel
theorem dX11_turn_14 : decode cX11_turn 14 = .ok (.aload_n 0, 1) := by decide +kernel
theorem dX11_turn_15 : decode cX11_turn 15 = .ok (.getfield 10, 3) := by decide +kernel
theorem dX11_turn_18 : decode cX11_turn 18 = .ok (.invokevirtual 148, 3) := by decide +kernel
theorem dX11_turn_21 : decode cX11_turn 21 = .ok (.ireturn, 1) := by decide +kernel
set_option maxRecDepth 20000 in
theorem ggX11_draft_X4_has : GoodIn wsX11_draft wsX4_has := goodIn_r _ [6, 7, 46, 47, 48] (by decide +kernel) (by decide +kernel)
set_option maxRecDepth 20000 in
theorem gX11_draft_X4_has_n93 : GoodIn wsX11_draft (wsX4_has) := ggX11_draft_X4_has
theorem dX11_draft_0 : decode cX11_draft 0 = .ok (.aload_n 0, 1) := by decide +kernel
theorem dX11_draft_1 : decode cX11_draft 1 = .ok (.getfield 10, 3) := by decide +kernel
theorem dX11_draft_4 : decode cX11_draft 4 = .ok (.iload_n 1, 1) := by decide +kernel
theorem dX11_draft_5 : decode cX11_draft 5 = .ok (.invokevirtual 93, 3) := by decide +kernel
theorem dX11_draft_8 : decode cX11_draft 8 = .ok (.ifCond .eq 14, 3) := by decide +kernel
theorem dX11_draft_22 : decode cX11_draft 22 = .ok (.iconst (-1), 1) := by decide +kernel
theorem dX11_draft_23 : decode cX11_draft 23 = .ok (.ireturn, 1) := by decide +kernel
set_option maxRecDepth 20000 in
theorem ggX11_take_X6_draftSet : GoodIn wsX11_take wsX6_draftSet := goodIn_r _ [6, 7, 8, 81, 82, 83, 84, 85, 86, 87, 88, 89] (by decide +kernel) (by decide +kernel)
set_option maxRecDepth 20000 in
theorem gX11_take_X6_draftSet_n161 : GoodIn wsX11_take (wsX6_draftSet) := ggX11_take_X6_draftSet
set_option maxRecDepth 20000 in
theorem ggX11_take_X4_all : GoodIn wsX11_take wsX4_all := goodIn_r _ [12, 13, 90, 91, 92] (by decide +kernel) (by decide +kernel)
set_option maxRecDepth 20000 in
theorem gX11_take_X4_all_n164 : GoodIn wsX11_take (wsX4_all) := ggX11_take_X4_all
set_option maxRecDepth 20000 in
theorem ggX11_take_X6_followDraft : GoodIn wsX11_take wsX6_followDraft := goodIn_r _ [16, 17, 8, 18, 19, 20, 4, 21, 22, 23, 24, 25, 26, 27, 28, 29, 30, 31, 32, 33, 34, 35, 36, 37, 38, 39, 40, 41, 42, 43, 44, 45, 46, 47, 48, 49, 50, 51, 52, 53, 54, 55, 56, 57, 58, 59, 60, 61, 62, 63, 64, 65, 66, 67, 81, 82, 83, 84, 85, 86, 87, 88, 89, 90, 91, 92, 93, 94] (by decide +kernel) (by decide +kernel)
set_option maxRecDepth 20000 in
theorem gX11_take_X6_followDraft_n167 : GoodIn wsX11_take (wsX6_followDraft) := ggX11_take_X6_followDraft
theorem dX11_take_0 : decode cX11_take 0 = .ok (.aload_n 0, 1) := by decide +kernel
theorem dX11_take_1 : decode cX11_take 1 = .ok (.getfield 26, 3) := by decide +kernel
theorem dX11_take_4 : decode cX11_take 4 = .ok (.invokevirtual 161, 3) := by decide +kernel
theorem dX11_take_7 : decode cX11_take 7 = .ok (.aload_n 0, 1) := by decide +kernel
theorem dX11_take_8 : decode cX11_take 8 = .ok (.getfield 10, 3) := by decide +kernel
theorem dX11_take_11 : decode cX11_take 11 = .ok (.invokevirtual 164, 3) := by decide +kernel
theorem dX11_take_14 : decode cX11_take 14 = .ok (.if_icmp .ne 7, 3) := by decide +kernel
theorem dX11_take_17 : decode cX11_take 17 = .ok (.iconst 1, 1) := by decide +kernel
theorem dX11_take_18 : decode cX11_take 18 = .ok (.goto 4, 3) := by decide +kernel
theorem dX11_take_22 : decode cX11_take 22 = .ok (.istore_n 1, 1) := by decide +kernel
theorem dX11_take_23 : decode cX11_take 23 = .ok (.iload_n 1, 1) := by decide +kernel
theorem dX11_take_24 : decode cX11_take 24 = .ok (.ifCond .eq 14, 3) := by decide +kernel
theorem dX11_take_27 : decode cX11_take 27 = .ok (.aload_n 0, 1) := by decide +kernel
theorem dX11_take_28 : decode cX11_take 28 = .ok (.getfield 26, 3) := by decide +kernel
theorem dX11_take_31 : decode cX11_take 31 = .ok (.aload_n 0, 1) := by decide +kernel
theorem dX11_take_32 : decode cX11_take 32 = .ok (.getfield 10, 3) := by decide +kernel
theorem dX11_take_35 : decode cX11_take 35 = .ok (.invokevirtual 167, 3) := by decide +kernel
theorem dX11_take_38 : decode cX11_take 38 = .ok (.aload_n 0, 1) := by decide +kernel
theorem dX11_take_39 : decode cX11_take 39 = .ok (.getfield 26, 3) := by decide +kernel
theorem dX11_take_42 : decode cX11_take 42 = .ok (.iconst 0, 1) := by decide +kernel
theorem dX11_take_43 : decode cX11_take 43 = .ok (.putfield 158, 3) := by decide +kernel
theorem dX11_take_46 : decode cX11_take 46 = .ok (.iload_n 1, 1) := by decide +kernel
theorem dX11_take_47 : decode cX11_take 47 = .ok (.ifCond .eq 13, 3) := by decide +kernel
theorem dX11_take_50 : decode cX11_take 50 = .ok (.aload_n 0, 1) := by decide +kernel
theorem dX11_take_51 : decode cX11_take 51 = .ok (.getfield 26, 3) := by decide +kernel
theorem dX11_take_54 : decode cX11_take 54 = .ok (.getfield 170, 3) := by decide +kernel
theorem dX11_take_57 : decode cX11_take 57 = .ok (.goto 5, 3) := by decide +kernel
theorem dX11_take_62 : decode cX11_take 62 = .ok (.ireturn, 1) := by decide +kernel
set_option maxRecDepth 20000 in
theorem ggX11_rule_X6_followRule : GoodIn wsX11_rule wsX6_followRule := goodIn_r _ [6, 7, 8, 9, 10, 11, 4, 12, 13, 14, 15, 16, 17, 18, 19, 20, 21, 22, 23, 24, 25, 26, 27, 28, 29, 30, 31, 32, 33, 34, 35, 36, 37, 38, 39, 40, 41, 42, 43, 44, 45, 46, 47, 48, 49, 50, 51, 52, 53, 54, 55, 56, 57, 58, 59, 60, 61, 62, 63, 64, 65, 66, 67, 68, 69, 70, 71, 72, 73, 74, 75, 76, 77, 91, 92, 93, 94, 95, 96, 97, 98, 99, 100, 101, 102, 103, 104] (by decide +kernel) (by decide +kernel)
set_option maxRecDepth 20000 in
theorem gX11_rule_X6_followRule_n173 : GoodIn wsX11_rule (wsX6_followRule) := ggX11_rule_X6_followRule
theorem dX11_rule_0 : decode cX11_rule 0 = .ok (.iload_n 1, 1) := by decide +kernel
theorem dX11_rule_1 : decode cX11_rule 1 = .ok (.ifCond .lt 8, 3) := by decide +kernel
theorem dX11_rule_4 : decode cX11_rule 4 = .ok (.iload_n 1, 1) := by decide +kernel
theorem dX11_rule_5 : decode cX11_rule 5 = .ok (.iconst 2, 1) := by decide +kernel
theorem dX11_rule_6 : decode cX11_rule 6 = .ok (.if_icmp .le 5, 3) := by decide +kernel
theorem dX11_rule_9 : decode cX11_rule 9 = .ok (.iconst (-1), 1) := by decide +kernel
theorem dX11_rule_10 : decode cX11_rule 10 = .ok (.ireturn, 1) := by decide +kernel
theorem dX11_rule_11 : decode cX11_rule 11 = .ok (.aload_n 0, 1) := by decide +kernel
theorem dX11_rule_12 : decode cX11_rule 12 = .ok (.getfield 26, 3) := by decide +kernel
theorem dX11_rule_15 : decode cX11_rule 15 = .ok (.aload_n 0, 1) := by decide +kernel
theorem dX11_rule_16 : decode cX11_rule 16 = .ok (.getfield 10, 3) := by decide +kernel
theorem dX11_rule_19 : decode cX11_rule 19 = .ok (.iload_n 1, 1) := by decide +kernel
theorem dX11_rule_20 : decode cX11_rule 20 = .ok (.invokevirtual 173, 3) := by decide +kernel
theorem dX11_rule_23 : decode cX11_rule 23 = .ok (.aload_n 0, 1) := by decide +kernel
theorem dX11_rule_24 : decode cX11_rule 24 = .ok (.getfield 26, 3) := by decide +kernel
theorem dX11_rule_27 : decode cX11_rule 27 = .ok (.getfield 170, 3) := by decide +kernel
theorem dX11_rule_30 : decode cX11_rule 30 = .ok (.ireturn, 1) := by decide +kernel
set_option maxRecDepth 20000 in
theorem ggX11_least_X6_followLeast : GoodIn wsX11_least wsX6_followLeast := goodIn_r _ [6, 7, 8, 9, 10, 11, 12, 4, 13, 14, 15, 16, 17, 18, 19, 20, 21, 22, 23, 24, 25, 26, 27, 28, 29, 30, 31, 32, 33, 34, 35, 36, 37, 38, 39, 40, 41, 42, 43, 44, 45, 46, 47, 48, 49, 50, 51, 52, 53, 54, 55, 56, 57, 58, 59, 60, 61, 62, 63, 64, 65, 66, 67, 68, 69, 70, 71, 72, 73, 74, 75, 76, 77, 78, 79, 80, 81, 82, 83, 84, 85, 86, 87, 88, 89, 90, 91, 92, 93, 94, 95, 96, 97, 98, 99, 100, 101, 102, 103, 104, 105, 106, 107, 108, 109, 110, 111, 112, 113, 114, 115, 116, 117, 118, 119, 120, 121, 122, 123, 137, 138, 139, 140, 141, 142, 143, 144, 145, 146, 147, 148, 149, 150, 151, 152, 153, 154, 155, 156] (by decide +kernel) (by decide +kernel)
set_option maxRecDepth 20000 in
theorem gX11_least_X6_followLeast_n177 : GoodIn wsX11_least (wsX6_followLeast) := ggX11_least_X6_followLeast
theorem dX11_least_0 : decode cX11_least 0 = .ok (.iload_n 1, 1) := by decide +kernel
theorem dX11_least_1 : decode cX11_least 1 = .ok (.ifCond .eq 10, 3) := by decide +kernel
theorem dX11_least_4 : decode cX11_least 4 = .ok (.iload_n 1, 1) := by decide +kernel
theorem dX11_least_5 : decode cX11_least 5 = .ok (.iconst 1, 1) := by decide +kernel
theorem dX11_least_6 : decode cX11_least 6 = .ok (.if_icmp .eq 5, 3) := by decide +kernel
theorem dX11_least_9 : decode cX11_least 9 = .ok (.iconst (-1), 1) := by decide +kernel
theorem dX11_least_10 : decode cX11_least 10 = .ok (.ireturn, 1) := by decide +kernel
theorem dX11_least_11 : decode cX11_least 11 = .ok (.aload_n 0, 1) := by decide +kernel
theorem dX11_least_12 : decode cX11_least 12 = .ok (.getfield 26, 3) := by decide +kernel
theorem dX11_least_15 : decode cX11_least 15 = .ok (.aload_n 0, 1) := by decide +kernel
theorem dX11_least_16 : decode cX11_least 16 = .ok (.getfield 10, 3) := by decide +kernel
theorem dX11_least_19 : decode cX11_least 19 = .ok (.iload_n 1, 1) := by decide +kernel
theorem dX11_least_20 : decode cX11_least 20 = .ok (.invokevirtual 177, 3) := by decide +kernel
theorem dX11_least_23 : decode cX11_least 23 = .ok (.iload_n 1, 1) := by decide +kernel
theorem dX11_least_24 : decode cX11_least 24 = .ok (.ifCond .ne 13, 3) := by decide +kernel
theorem dX11_least_27 : decode cX11_least 27 = .ok (.aload_n 0, 1) := by decide +kernel
theorem dX11_least_28 : decode cX11_least 28 = .ok (.getfield 26, 3) := by decide +kernel
theorem dX11_least_31 : decode cX11_least 31 = .ok (.getfield 170, 3) := by decide +kernel
theorem dX11_least_34 : decode cX11_least 34 = .ok (.goto 10, 3) := by decide +kernel
theorem dX11_least_37 : decode cX11_least 37 = .ok (.aload_n 0, 1) := by decide +kernel
theorem dX11_least_38 : decode cX11_least 38 = .ok (.getfield 26, 3) := by decide +kernel
theorem dX11_least_41 : decode cX11_least 41 = .ok (.getfield 180, 3) := by decide +kernel
theorem dX11_least_44 : decode cX11_least 44 = .ok (.ireturn, 1) := by decide +kernel
set_option maxRecDepth 20000 in
theorem ggX11_order_X6_length : GoodIn wsX11_order wsX6_length := goodIn_r _ [5, 6, 7, 21, 22, 23, 24, 25, 26, 27, 28, 29] (by decide +kernel) (by decide +kernel)
set_option maxRecDepth 20000 in
theorem gX11_order_X6_length_n181 : GoodIn wsX11_order (wsX6_length) := ggX11_order_X6_length
theorem dX11_order_0 : decode cX11_order 0 = .ok (.iload_n 1, 1) := by decide +kernel
theorem dX11_order_1 : decode cX11_order 1 = .ok (.ifCond .lt 26, 3) := by decide +kernel
theorem dX11_order_4 : decode cX11_order 4 = .ok (.iload_n 1, 1) := by decide +kernel
theorem dX11_order_5 : decode cX11_order 5 = .ok (.aload_n 0, 1) := by decide +kernel
theorem dX11_order_6 : decode cX11_order 6 = .ok (.getfield 26, 3) := by decide +kernel
theorem dX11_order_9 : decode cX11_order 9 = .ok (.invokevirtual 181, 3) := by decide +kernel
theorem dX11_order_12 : decode cX11_order 12 = .ok (.if_icmp .ge 15, 3) := by decide +kernel
theorem dX11_order_27 : decode cX11_order 27 = .ok (.bipush (-9), 2) := by decide +kernel
theorem dX11_order_29 : decode cX11_order 29 = .ok (.ireturn, 1) := by decide +kernel
theorem dX11_about_0 : decode cX11_about 0 = .ok (.iload_n 1, 1) := by decide +kernel
theorem dX11_about_1 : decode cX11_about 1 = .ok (.ifCond .lt 8, 3) := by decide +kernel
theorem dX11_about_4 : decode cX11_about 4 = .ok (.iload_n 1, 1) := by decide +kernel
theorem dX11_about_5 : decode cX11_about 5 = .ok (.iconst 2, 1) := by decide +kernel
theorem dX11_about_6 : decode cX11_about 6 = .ok (.if_icmp .le 5, 3) := by decide +kernel
theorem dX11_about_9 : decode cX11_about 9 = .ok (.iconst (-1), 1) := by decide +kernel
theorem dX11_about_10 : decode cX11_about 10 = .ok (.ireturn, 1) := by decide +kernel
theorem dX11_about_11 : decode cX11_about 11 = .ok (.aload_n 0, 1) := by decide +kernel
theorem dX11_about_12 : decode cX11_about 12 = .ok (.getfield 26, 3) := by decide +kernel
theorem dX11_about_15 : decode cX11_about 15 = .ok (.getfield 186, 3) := by decide +kernel
theorem dX11_about_18 : decode cX11_about 18 = .ok (.ifCond .ne 6, 3) := by decide +kernel
theorem dX11_about_21 : decode cX11_about 21 = .ok (.bipush (-9), 2) := by decide +kernel
theorem dX11_about_23 : decode cX11_about 23 = .ok (.ireturn, 1) := by decide +kernel
theorem dX11_fill_0 : decode cX11_fill 0 = .ok (.aload_n 0, 1) := by decide +kernel
theorem dX11_fill_1 : decode cX11_fill 1 = .ok (.getfield 26, 3) := by decide +kernel
theorem dX11_fill_4 : decode cX11_fill 4 = .ok (.getfield 186, 3) := by decide +kernel
theorem dX11_fill_7 : decode cX11_fill 7 = .ok (.ifCond .ne 6, 3) := by decide +kernel
theorem dX11_fill_10 : decode cX11_fill 10 = .ok (.bipush (-9), 2) := by decide +kernel
theorem dX11_fill_12 : decode cX11_fill 12 = .ok (.ireturn, 1) := by decide +kernel
set_option maxRecDepth 20000 in
theorem ggX11_clique_X1_bring : GoodIn wsX11_clique wsX1_bring := goodIn_r _ [6, 7, 8, 9, 10, 11, 12, 13, 14, 15, 16, 17, 4, 18, 19, 20, 21, 22, 23, 24, 25, 26, 27, 28, 29, 30, 31, 32, 33, 34, 35, 52, 53, 54, 55, 56, 57, 58, 59, 60, 61, 62] (by decide +kernel) (by decide +kernel)
set_option maxRecDepth 20000 in
theorem gX11_clique_X1_bring_n193 : GoodIn wsX11_clique (wsX1_bring) := ggX11_clique_X1_bring
set_option maxRecDepth 20000 in
theorem ggX11_clique_X1_has : GoodIn wsX11_clique wsX1_has := goodIn_r _ [38, 8, 52, 53, 54, 55, 56, 57, 58, 59] (by decide +kernel) (by decide +kernel)
set_option maxRecDepth 20000 in
theorem gX11_clique_X1_has_n195 : GoodIn wsX11_clique (wsX1_has) := ggX11_clique_X1_has
theorem dX11_clique_0 : decode cX11_clique 0 = .ok (.aload_n 0, 1) := by decide +kernel
theorem dX11_clique_1 : decode cX11_clique 1 = .ok (.getfield 42, 3) := by decide +kernel
theorem dX11_clique_4 : decode cX11_clique 4 = .ok (.aload_n 0, 1) := by decide +kernel
theorem dX11_clique_5 : decode cX11_clique 5 = .ok (.getfield 10, 3) := by decide +kernel
theorem dX11_clique_8 : decode cX11_clique 8 = .ok (.invokevirtual 193, 3) := by decide +kernel
theorem dX11_clique_11 : decode cX11_clique 11 = .ok (.iload_n 1, 1) := by decide +kernel
theorem dX11_clique_12 : decode cX11_clique 12 = .ok (.iconst (-1), 1) := by decide +kernel
theorem dX11_clique_13 : decode cX11_clique 13 = .ok (.if_icmp .ne 11, 3) := by decide +kernel
theorem dX11_clique_16 : decode cX11_clique 16 = .ok (.aload_n 0, 1) := by decide +kernel
theorem dX11_clique_17 : decode cX11_clique 17 = .ok (.getfield 42, 3) := by decide +kernel
theorem dX11_clique_20 : decode cX11_clique 20 = .ok (.getfield 194, 3) := by decide +kernel
theorem dX11_clique_23 : decode cX11_clique 23 = .ok (.ireturn, 1) := by decide +kernel
theorem dX11_clique_24 : decode cX11_clique 24 = .ok (.aload_n 0, 1) := by decide +kernel
theorem dX11_clique_25 : decode cX11_clique 25 = .ok (.getfield 42, 3) := by decide +kernel
theorem dX11_clique_28 : decode cX11_clique 28 = .ok (.iload_n 1, 1) := by decide +kernel
theorem dX11_clique_29 : decode cX11_clique 29 = .ok (.invokevirtual 195, 3) := by decide +kernel
theorem dX11_clique_32 : decode cX11_clique 32 = .ok (.ifCond .eq 15, 3) := by decide +kernel
theorem dX11_clique_47 : decode cX11_clique 47 = .ok (.bipush (-9), 2) := by decide +kernel
theorem dX11_clique_49 : decode cX11_clique 49 = .ok (.ireturn, 1) := by decide +kernel
set_option maxRecDepth 20000 in
theorem ggX11_greatest_X1_bring : GoodIn wsX11_greatest wsX1_bring := goodIn_r _ [6, 7, 8, 9, 10, 11, 12, 13, 14, 15, 16, 17, 4, 18, 19, 20, 21, 22, 23, 24, 25, 26, 27, 28, 29, 30, 31, 32, 33, 34, 35, 59, 60, 61, 62, 63, 64, 65, 66, 67, 68, 69] (by decide +kernel) (by decide +kernel)
set_option maxRecDepth 20000 in
theorem gX11_greatest_X1_bring_n193 : GoodIn wsX11_greatest (wsX1_bring) := ggX11_greatest_X1_bring
set_option maxRecDepth 20000 in
theorem ggX11_greatest_X1_widest : GoodIn wsX11_greatest wsX1_widest := goodIn_r _ [38, 8, 30, 39, 40, 33, 41, 42, 43, 44, 59, 60, 61, 62, 63, 64, 65, 66] (by decide +kernel) (by decide +kernel)
set_option maxRecDepth 20000 in
theorem gX11_greatest_X1_widest_n199 : GoodIn wsX11_greatest (wsX1_widest) := ggX11_greatest_X1_widest
set_option maxRecDepth 20000 in
theorem ggX11_greatest_J6_bitCount_0f7a4 : GoodIn wsX11_greatest wsJ6_bitCount_0f7a4 := goodIn_r _ [41, 42, 43, 44] (by decide +kernel) (by decide +kernel)
set_option maxRecDepth 20000 in
theorem gX11_greatest_J6_bitCount_0f7a4 : GoodIn wsX11_greatest (va_wsS RX11 118 yJ6_bitCount_0f7a4 wsJ6_bitCount_0f7a4) := goodIn_app (goodIn_of _ (by decide +kernel)) ggX11_greatest_J6_bitCount_0f7a4
theorem dX11_greatest_0 : decode cX11_greatest 0 = .ok (.aload_n 0, 1) := by decide +kernel
theorem dX11_greatest_1 : decode cX11_greatest 1 = .ok (.getfield 42, 3) := by decide +kernel
theorem dX11_greatest_4 : decode cX11_greatest 4 = .ok (.aload_n 0, 1) := by decide +kernel
theorem dX11_greatest_5 : decode cX11_greatest 5 = .ok (.getfield 10, 3) := by decide +kernel
theorem dX11_greatest_8 : decode cX11_greatest 8 = .ok (.invokevirtual 193, 3) := by decide +kernel
theorem dX11_greatest_11 : decode cX11_greatest 11 = .ok (.aload_n 0, 1) := by decide +kernel
theorem dX11_greatest_12 : decode cX11_greatest 12 = .ok (.getfield 42, 3) := by decide +kernel
theorem dX11_greatest_15 : decode cX11_greatest 15 = .ok (.invokevirtual 199, 3) := by decide +kernel
theorem dX11_greatest_18 : decode cX11_greatest 18 = .ok (.invokestatic 118, 3) := by decide +kernel
theorem dX11_greatest_21 : decode cX11_greatest 21 = .ok (.ireturn, 1) := by decide +kernel
set_option maxRecDepth 20000 in
theorem ggX11_sort_X4_all : GoodIn wsX11_sort wsX4_all := goodIn_r _ [5, 6, 30, 31, 32] (by decide +kernel) (by decide +kernel)
set_option maxRecDepth 20000 in
theorem gX11_sort_X4_all_n164 : GoodIn wsX11_sort (wsX4_all) := ggX11_sort_X4_all
theorem dX11_sort_0 : decode cX11_sort 0 = .ok (.iload_n 1, 1) := by decide +kernel
theorem dX11_sort_1 : decode cX11_sort 1 = .ok (.ifCond .le 14, 3) := by decide +kernel
theorem dX11_sort_4 : decode cX11_sort 4 = .ok (.iload_n 1, 1) := by decide +kernel
theorem dX11_sort_5 : decode cX11_sort 5 = .ok (.aload_n 0, 1) := by decide +kernel
theorem dX11_sort_6 : decode cX11_sort 6 = .ok (.getfield 10, 3) := by decide +kernel
theorem dX11_sort_9 : decode cX11_sort 9 = .ok (.invokevirtual 164, 3) := by decide +kernel
theorem dX11_sort_12 : decode cX11_sort 12 = .ok (.if_icmp .le 5, 3) := by decide +kernel
theorem dX11_sort_15 : decode cX11_sort 15 = .ok (.iconst (-1), 1) := by decide +kernel
theorem dX11_sort_16 : decode cX11_sort 16 = .ok (.ireturn, 1) := by decide +kernel
set_option maxRecDepth 20000 in
theorem ggX11_colour_X4_has : GoodIn wsX11_colour wsX4_has := goodIn_r _ [7, 8, 86, 87, 88] (by decide +kernel) (by decide +kernel)
set_option maxRecDepth 20000 in
theorem gX11_colour_X4_has_n93 : GoodIn wsX11_colour (wsX4_has) := ggX11_colour_X4_has
set_option maxRecDepth 20000 in
theorem ggX11_colour_X1_bring : GoodIn wsX11_colour wsX1_bring := goodIn_r _ [12, 13, 14, 15, 16, 17, 5, 18, 19, 8, 20, 21, 10, 22, 23, 24, 25, 26, 27, 28, 29, 30, 31, 32, 33, 34, 35, 36, 37, 38, 39, 89, 90, 91, 92, 93, 94, 95, 96, 86, 87, 88] (by decide +kernel) (by decide +kernel)
set_option maxRecDepth 20000 in
theorem gX11_colour_X1_bring_n193 : GoodIn wsX11_colour (wsX1_bring) := ggX11_colour_X1_bring
set_option maxRecDepth 20000 in
theorem ggX11_colour_X1_widest : GoodIn wsX11_colour wsX1_widest := goodIn_r _ [42, 14, 34, 43, 44, 37, 45, 46, 47, 48, 89, 90, 91, 92, 93, 94, 95, 96] (by decide +kernel) (by decide +kernel)
set_option maxRecDepth 20000 in
theorem gX11_colour_X1_widest_n199 : GoodIn wsX11_colour (wsX1_widest) := ggX11_colour_X1_widest
set_option maxRecDepth 20000 in
theorem ggX11_colour_J6_bitCount_0f7a4 : GoodIn wsX11_colour wsJ6_bitCount_0f7a4 := goodIn_r _ [45, 46, 47, 48] (by decide +kernel) (by decide +kernel)
set_option maxRecDepth 20000 in
theorem gX11_colour_J6_bitCount_0f7a4 : GoodIn wsX11_colour (va_wsS RX11 118 yJ6_bitCount_0f7a4 wsJ6_bitCount_0f7a4) := goodIn_app (goodIn_of _ (by decide +kernel)) ggX11_colour_J6_bitCount_0f7a4
set_option maxRecDepth 20000 in
theorem ggX11_colour_X7_bring : GoodIn wsX11_colour wsX7_bring := goodIn_r _ [53, 54, 55, 56, 57, 58, 59, 60, 61, 62, 51, 63, 64, 65, 66, 67, 68, 82, 83, 84, 85, 86, 87, 88] (by decide +kernel) (by decide +kernel)
set_option maxRecDepth 20000 in
theorem gX11_colour_X7_bring_n208 : GoodIn wsX11_colour (wsX7_bring) := ggX11_colour_X7_bring
theorem dX11_colour_0 : decode cX11_colour 0 = .ok (.iload_n 1, 1) := by decide +kernel
theorem dX11_colour_1 : decode cX11_colour 1 = .ok (.iconst (-1), 1) := by decide +kernel
theorem dX11_colour_2 : decode cX11_colour 2 = .ok (.if_icmp .eq 16, 3) := by decide +kernel
theorem dX11_colour_5 : decode cX11_colour 5 = .ok (.aload_n 0, 1) := by decide +kernel
theorem dX11_colour_6 : decode cX11_colour 6 = .ok (.getfield 10, 3) := by decide +kernel
theorem dX11_colour_9 : decode cX11_colour 9 = .ok (.iload_n 1, 1) := by decide +kernel
theorem dX11_colour_10 : decode cX11_colour 10 = .ok (.invokevirtual 93, 3) := by decide +kernel
theorem dX11_colour_13 : decode cX11_colour 13 = .ok (.ifCond .ne 5, 3) := by decide +kernel
theorem dX11_colour_16 : decode cX11_colour 16 = .ok (.iconst (-1), 1) := by decide +kernel
theorem dX11_colour_17 : decode cX11_colour 17 = .ok (.ireturn, 1) := by decide +kernel
theorem dX11_colour_18 : decode cX11_colour 18 = .ok (.aload_n 0, 1) := by decide +kernel
theorem dX11_colour_19 : decode cX11_colour 19 = .ok (.getfield 42, 3) := by decide +kernel
theorem dX11_colour_22 : decode cX11_colour 22 = .ok (.aload_n 0, 1) := by decide +kernel
theorem dX11_colour_23 : decode cX11_colour 23 = .ok (.getfield 10, 3) := by decide +kernel
theorem dX11_colour_26 : decode cX11_colour 26 = .ok (.invokevirtual 193, 3) := by decide +kernel
theorem dX11_colour_29 : decode cX11_colour 29 = .ok (.aload_n 0, 1) := by decide +kernel
theorem dX11_colour_30 : decode cX11_colour 30 = .ok (.getfield 52, 3) := by decide +kernel
theorem dX11_colour_33 : decode cX11_colour 33 = .ok (.aload_n 0, 1) := by decide +kernel
theorem dX11_colour_34 : decode cX11_colour 34 = .ok (.getfield 10, 3) := by decide +kernel
theorem dX11_colour_37 : decode cX11_colour 37 = .ok (.aload_n 0, 1) := by decide +kernel
theorem dX11_colour_38 : decode cX11_colour 38 = .ok (.getfield 42, 3) := by decide +kernel
theorem dX11_colour_41 : decode cX11_colour 41 = .ok (.invokevirtual 199, 3) := by decide +kernel
theorem dX11_colour_44 : decode cX11_colour 44 = .ok (.invokestatic 118, 3) := by decide +kernel
theorem dX11_colour_47 : decode cX11_colour 47 = .ok (.invokevirtual 208, 3) := by decide +kernel
theorem dX11_colour_50 : decode cX11_colour 50 = .ok (.iload_n 1, 1) := by decide +kernel
theorem dX11_colour_51 : decode cX11_colour 51 = .ok (.iconst (-1), 1) := by decide +kernel
theorem dX11_colour_52 : decode cX11_colour 52 = .ok (.if_icmp .ne 13, 3) := by decide +kernel
theorem dX11_colour_55 : decode cX11_colour 55 = .ok (.aload_n 0, 1) := by decide +kernel
theorem dX11_colour_56 : decode cX11_colour 56 = .ok (.getfield 52, 3) := by decide +kernel
theorem dX11_colour_59 : decode cX11_colour 59 = .ok (.getfield 210, 3) := by decide +kernel
theorem dX11_colour_62 : decode cX11_colour 62 = .ok (.goto 12, 3) := by decide +kernel
theorem dX11_colour_74 : decode cX11_colour 74 = .ok (.ireturn, 1) := by decide +kernel
set_option maxRecDepth 20000 in
theorem ggX11_apart_X1_bring : GoodIn wsX11_apart wsX1_bring := goodIn_r _ [6, 7, 8, 9, 10, 11, 12, 13, 14, 15, 16, 17, 4, 18, 19, 20, 21, 22, 23, 24, 25, 26, 27, 28, 29, 30, 31, 32, 33, 34, 35, 58, 59, 60, 61, 62, 63, 64, 65, 66, 67, 68] (by decide +kernel) (by decide +kernel)
set_option maxRecDepth 20000 in
theorem gX11_apart_X1_bring_n193 : GoodIn wsX11_apart (wsX1_bring) := ggX11_apart_X1_bring
set_option maxRecDepth 20000 in
theorem ggX11_apart_X1_widest : GoodIn wsX11_apart wsX1_widest := goodIn_r _ [38, 8, 30, 39, 40, 33, 41, 42, 43, 44, 58, 59, 60, 61, 62, 63, 64, 65] (by decide +kernel) (by decide +kernel)
set_option maxRecDepth 20000 in
theorem gX11_apart_X1_widest_n199 : GoodIn wsX11_apart (wsX1_widest) := ggX11_apart_X1_widest
theorem dX11_apart_0 : decode cX11_apart 0 = .ok (.aload_n 0, 1) := by decide +kernel
theorem dX11_apart_1 : decode cX11_apart 1 = .ok (.getfield 46, 3) := by decide +kernel
theorem dX11_apart_4 : decode cX11_apart 4 = .ok (.aload_n 0, 1) := by decide +kernel
theorem dX11_apart_5 : decode cX11_apart 5 = .ok (.getfield 10, 3) := by decide +kernel
theorem dX11_apart_8 : decode cX11_apart 8 = .ok (.invokevirtual 193, 3) := by decide +kernel
theorem dX11_apart_11 : decode cX11_apart 11 = .ok (.aload_n 0, 1) := by decide +kernel
theorem dX11_apart_12 : decode cX11_apart 12 = .ok (.getfield 46, 3) := by decide +kernel
theorem dX11_apart_15 : decode cX11_apart 15 = .ok (.invokevirtual 199, 3) := by decide +kernel
theorem dX11_apart_18 : decode cX11_apart 18 = .ok (.ireturn, 1) := by decide +kernel
set_option maxRecDepth 20000 in
theorem ggX11_tree_X1_bring : GoodIn wsX11_tree wsX1_bring := goodIn_r _ [7, 8, 9, 10, 11, 12, 13, 14, 15, 16, 17, 18, 5, 19, 20, 21, 22, 23, 24, 25, 26, 27, 28, 29, 30, 31, 32, 33, 34, 35, 36, 126, 127, 128, 129, 130, 131, 132, 133, 134, 135, 136] (by decide +kernel) (by decide +kernel)
set_option maxRecDepth 20000 in
theorem gX11_tree_X1_bring_n193 : GoodIn wsX11_tree (wsX1_bring) := ggX11_tree_X1_bring
set_option maxRecDepth 20000 in
theorem ggX11_tree_X1_has : GoodIn wsX11_tree wsX1_has := goodIn_r _ [39, 9, 126, 127, 128, 129, 130, 131, 132, 133] (by decide +kernel) (by decide +kernel)
set_option maxRecDepth 20000 in
theorem gX11_tree_X1_has_n195 : GoodIn wsX11_tree (wsX1_has) := ggX11_tree_X1_has
theorem dX11_tree_0 : decode cX11_tree 0 = .ok (.aload_n 0, 1) := by decide +kernel
theorem dX11_tree_1 : decode cX11_tree 1 = .ok (.getfield 42, 3) := by decide +kernel
theorem dX11_tree_4 : decode cX11_tree 4 = .ok (.aload_n 0, 1) := by decide +kernel
theorem dX11_tree_5 : decode cX11_tree 5 = .ok (.getfield 10, 3) := by decide +kernel
theorem dX11_tree_8 : decode cX11_tree 8 = .ok (.invokevirtual 193, 3) := by decide +kernel
theorem dX11_tree_11 : decode cX11_tree 11 = .ok (.aload_n 0, 1) := by decide +kernel
theorem dX11_tree_12 : decode cX11_tree 12 = .ok (.getfield 42, 3) := by decide +kernel
theorem dX11_tree_15 : decode cX11_tree 15 = .ok (.iload_n 1, 1) := by decide +kernel
theorem dX11_tree_16 : decode cX11_tree 16 = .ok (.invokevirtual 195, 3) := by decide +kernel
theorem dX11_tree_19 : decode cX11_tree 19 = .ok (.ifCond .eq 12, 3) := by decide +kernel
theorem dX11_tree_31 : decode cX11_tree 31 = .ok (.iconst (-1), 1) := by decide +kernel
theorem dX11_tree_32 : decode cX11_tree 32 = .ok (.ireturn, 1) := by decide +kernel
set_option maxRecDepth 20000 in
theorem ggX11_part_X4_has : GoodIn wsX11_part wsX4_has := goodIn_r _ [6, 7, 70, 71, 72] (by decide +kernel) (by decide +kernel)
set_option maxRecDepth 20000 in
theorem gX11_part_X4_has_n93 : GoodIn wsX11_part (wsX4_has) := ggX11_part_X4_has
theorem dX11_part_0 : decode cX11_part 0 = .ok (.aload_n 0, 1) := by decide +kernel
theorem dX11_part_1 : decode cX11_part 1 = .ok (.getfield 10, 3) := by decide +kernel
theorem dX11_part_4 : decode cX11_part 4 = .ok (.iload_n 1, 1) := by decide +kernel
theorem dX11_part_5 : decode cX11_part 5 = .ok (.invokevirtual 93, 3) := by decide +kernel
theorem dX11_part_8 : decode cX11_part 8 = .ok (.ifCond .eq 19, 3) := by decide +kernel
theorem dX11_part_27 : decode cX11_part 27 = .ok (.iconst (-1), 1) := by decide +kernel
theorem dX11_part_28 : decode cX11_part 28 = .ok (.ireturn, 1) := by decide +kernel
set_option maxRecDepth 20000 in
theorem ggX11_line_X11_bringSpans : GoodIn wsX11_line wsX11_bringSpans := goodIn_r _ [6, 1, 7, 8, 9, 10, 11, 12, 13, 14, 15, 16, 17, 18, 19, 20, 21, 22, 23, 24, 25, 26, 27, 28, 29, 5, 30, 31, 32, 33, 34, 35, 36, 37, 38, 39, 40, 41, 42, 43, 44, 45, 46, 47, 48, 49, 50, 51, 52, 53, 54, 55, 56, 57, 58, 59, 60, 61, 62, 63, 64, 65, 66, 67, 68, 69, 70, 71, 72, 73, 74, 75, 76, 77, 78, 79, 80, 81, 82, 83, 84, 85, 86, 87, 88, 89, 90, 91, 92, 93, 94, 95, 96, 97, 98, 99, 100, 101, 102, 103, 104, 105, 106, 107, 108, 109] (by decide +kernel) (by decide +kernel)
set_option maxRecDepth 20000 in
theorem gX11_line_X11_bringSpans : GoodIn wsX11_line (wsV RX11 230 RX11 yX11_bringSpans wsX11_bringSpans) := goodIn_app (goodIn_of _ (by decide +kernel)) ggX11_line_X11_bringSpans
theorem dX11_line_0 : decode cX11_line 0 = .ok (.aload_n 0, 1) := by decide +kernel
theorem dX11_line_1 : decode cX11_line 1 = .ok (.invokevirtual 230, 3) := by decide +kernel
theorem dX11_line_4 : decode cX11_line 4 = .ok (.aload_n 0, 1) := by decide +kernel
theorem dX11_line_5 : decode cX11_line 5 = .ok (.getfield 75, 3) := by decide +kernel
theorem dX11_line_8 : decode cX11_line 8 = .ok (.getfield 233, 3) := by decide +kernel
theorem dX11_line_11 : decode cX11_line 11 = .ok (.ifCond .eq 30, 3) := by decide +kernel
theorem dX11_line_14 : decode cX11_line 14 = .ok (.iload_n 1, 1) := by decide +kernel
theorem dX11_line_15 : decode cX11_line 15 = .ok (.ifCond .lt 26, 3) := by decide +kernel
theorem dX11_line_18 : decode cX11_line 18 = .ok (.iload_n 1, 1) := by decide +kernel
theorem dX11_line_19 : decode cX11_line 19 = .ok (.aload_n 0, 1) := by decide +kernel
theorem dX11_line_20 : decode cX11_line 20 = .ok (.getfield 75, 3) := by decide +kernel
theorem dX11_line_23 : decode cX11_line 23 = .ok (.getfield 236, 3) := by decide +kernel
theorem dX11_line_26 : decode cX11_line 26 = .ok (.if_icmp .ge 15, 3) := by decide +kernel
theorem dX11_line_41 : decode cX11_line 41 = .ok (.bipush (-9), 2) := by decide +kernel
theorem dX11_line_43 : decode cX11_line 43 = .ok (.ireturn, 1) := by decide +kernel
set_option maxRecDepth 20000 in
theorem ggX11_span_X4_has : GoodIn wsX11_span wsX4_has := goodIn_r _ [6, 7, 108, 109, 110] (by decide +kernel) (by decide +kernel)
set_option maxRecDepth 20000 in
theorem gX11_span_X4_has_n93 : GoodIn wsX11_span (wsX4_has) := ggX11_span_X4_has
theorem dX11_span_0 : decode cX11_span 0 = .ok (.aload_n 0, 1) := by decide +kernel
theorem dX11_span_1 : decode cX11_span 1 = .ok (.getfield 10, 3) := by decide +kernel
theorem dX11_span_4 : decode cX11_span 4 = .ok (.iload_n 1, 1) := by decide +kernel
theorem dX11_span_5 : decode cX11_span 5 = .ok (.invokevirtual 93, 3) := by decide +kernel
theorem dX11_span_8 : decode cX11_span 8 = .ok (.ifCond .ne 5, 3) := by decide +kernel
theorem dX11_span_11 : decode cX11_span 11 = .ok (.iconst (-1), 1) := by decide +kernel
theorem dX11_span_12 : decode cX11_span 12 = .ok (.ireturn, 1) := by decide +kernel
set_option maxRecDepth 20000 in
theorem ggX11_far_X2_bring : GoodIn wsX11_far wsX2_bring := goodIn_r _ [6, 7, 8, 9, 10, 11, 4, 12, 13, 14, 15, 16, 17, 18, 19, 20, 21, 22, 23, 24, 25, 26, 27, 28, 29, 30, 31, 32, 33, 34, 35, 36, 37, 38, 39, 40, 54, 55, 56, 57, 58, 59, 60] (by decide +kernel) (by decide +kernel)
set_option maxRecDepth 20000 in
theorem gX11_far_X2_bring_n244 : GoodIn wsX11_far (wsX2_bring) := ggX11_far_X2_bring
theorem dX11_far_0 : decode cX11_far 0 = .ok (.aload_n 0, 1) := by decide +kernel
theorem dX11_far_1 : decode cX11_far 1 = .ok (.getfield 66, 3) := by decide +kernel
theorem dX11_far_4 : decode cX11_far 4 = .ok (.aload_n 0, 1) := by decide +kernel
theorem dX11_far_5 : decode cX11_far 5 = .ok (.getfield 10, 3) := by decide +kernel
theorem dX11_far_8 : decode cX11_far 8 = .ok (.invokevirtual 244, 3) := by decide +kernel
theorem dX11_far_11 : decode cX11_far 11 = .ok (.aload_n 0, 1) := by decide +kernel
theorem dX11_far_12 : decode cX11_far 12 = .ok (.getfield 66, 3) := by decide +kernel
theorem dX11_far_15 : decode cX11_far 15 = .ok (.getfield 245, 3) := by decide +kernel
theorem dX11_far_18 : decode cX11_far 18 = .ok (.ifCond .eq 24, 3) := by decide +kernel
theorem dX11_far_42 : decode cX11_far 42 = .ok (.bipush (-9), 2) := by decide +kernel
theorem dX11_far_44 : decode cX11_far 44 = .ok (.ireturn, 1) := by decide +kernel
set_option maxRecDepth 20000 in
theorem ggX11_columns_X11_found : GoodIn wsX11_columns wsX11_found := goodIn_r _ [6, 7, 8, 20, 21, 22, 23, 24, 25, 26, 27, 28, 29, 30, 31, 32] (by decide +kernel) (by decide +kernel)
set_option maxRecDepth 20000 in
theorem gX11_columns_X11_found : GoodIn wsX11_columns (wsV RX11 114 RX11 yX11_found wsX11_found) := goodIn_app (goodIn_of _ (by decide +kernel)) ggX11_columns_X11_found
set_option maxRecDepth 20000 in
theorem ggX11_columns_X10_restart : GoodIn wsX11_columns wsX10_restart := goodIn_r _ [12, 13, 14, 15, 16, 17, 18, 19, 33, 34, 35] (by decide +kernel) (by decide +kernel)
set_option maxRecDepth 20000 in
theorem gX11_columns_X10_restart_n249 : GoodIn wsX11_columns (wsX10_restart) := ggX11_columns_X10_restart
theorem dX11_columns_0 : decode cX11_columns 0 = .ok (.iload_n 1, 1) := by decide +kernel
theorem dX11_columns_1 : decode cX11_columns 1 = .ok (.bipush 8, 2) := by decide +kernel
theorem dX11_columns_3 : decode cX11_columns 3 = .ok (.if_icmp .le 5, 3) := by decide +kernel
theorem dX11_columns_6 : decode cX11_columns 6 = .ok (.iconst (-1), 1) := by decide +kernel
theorem dX11_columns_7 : decode cX11_columns 7 = .ok (.ireturn, 1) := by decide +kernel
theorem dX11_columns_8 : decode cX11_columns 8 = .ok (.iload_n 1, 1) := by decide +kernel
theorem dX11_columns_9 : decode cX11_columns 9 = .ok (.ifCond .ge 9, 3) := by decide +kernel
theorem dX11_columns_12 : decode cX11_columns 12 = .ok (.aload_n 0, 1) := by decide +kernel
theorem dX11_columns_13 : decode cX11_columns 13 = .ok (.iconst 4, 1) := by decide +kernel
theorem dX11_columns_14 : decode cX11_columns 14 = .ok (.invokevirtual 114, 3) := by decide +kernel
theorem dX11_columns_17 : decode cX11_columns 17 = .ok (.ireturn, 1) := by decide +kernel
theorem dX11_columns_18 : decode cX11_columns 18 = .ok (.aload_n 0, 1) := by decide +kernel
theorem dX11_columns_19 : decode cX11_columns 19 = .ok (.getfield 19, 3) := by decide +kernel
theorem dX11_columns_22 : decode cX11_columns 22 = .ok (.iload_n 1, 1) := by decide +kernel
theorem dX11_columns_23 : decode cX11_columns 23 = .ok (.invokevirtual 249, 3) := by decide +kernel
theorem dX11_columns_26 : decode cX11_columns 26 = .ok (.iload_n 1, 1) := by decide +kernel
theorem dX11_columns_27 : decode cX11_columns 27 = .ok (.ireturn, 1) := by decide +kernel
set_option maxRecDepth 20000 in
theorem ggX11_row_X10_hasPlace : GoodIn wsX11_row wsX10_hasPlace := goodIn_r _ [5] (by decide +kernel) (by decide +kernel)
set_option maxRecDepth 20000 in
theorem gX11_row_X10_hasPlace_n252 : GoodIn wsX11_row (wsX10_hasPlace) := ggX11_row_X10_hasPlace
set_option maxRecDepth 20000 in
theorem ggX11_row_X11_found : GoodIn wsX11_row wsX11_found := goodIn_r _ [10, 11, 12, 18, 19, 20, 21, 22, 23, 24, 25, 26, 27, 28, 29, 30] (by decide +kernel) (by decide +kernel)
set_option maxRecDepth 20000 in
theorem gX11_row_X11_found : GoodIn wsX11_row (wsV RX11 114 RX11 yX11_found wsX11_found) := goodIn_app (goodIn_of _ (by decide +kernel)) ggX11_row_X11_found
set_option maxRecDepth 20000 in
theorem ggX11_row_X10_put : GoodIn wsX11_row wsX10_put := goodIn_r _ [15, 16, 17, 31, 32, 33] (by decide +kernel) (by decide +kernel)
set_option maxRecDepth 20000 in
theorem gX11_row_X10_put_n255 : GoodIn wsX11_row (wsX10_put) := ggX11_row_X10_put
theorem dX11_row_0 : decode cX11_row 0 = .ok (.iload_n 2, 1) := by decide +kernel
theorem dX11_row_1 : decode cX11_row 1 = .ok (.ifCond .lt 16, 3) := by decide +kernel
theorem dX11_row_4 : decode cX11_row 4 = .ok (.iload_n 2, 1) := by decide +kernel
theorem dX11_row_5 : decode cX11_row 5 = .ok (.iconst 1, 1) := by decide +kernel
theorem dX11_row_6 : decode cX11_row 6 = .ok (.aload_n 0, 1) := by decide +kernel
theorem dX11_row_7 : decode cX11_row 7 = .ok (.getfield 19, 3) := by decide +kernel
theorem dX11_row_10 : decode cX11_row 10 = .ok (.getfield 133, 3) := by decide +kernel
theorem dX11_row_13 : decode cX11_row 13 = .ok (.ishl, 1) := by decide +kernel
theorem dX11_row_14 : decode cX11_row 14 = .ok (.if_icmp .lt 5, 3) := by decide +kernel
theorem dX11_row_17 : decode cX11_row 17 = .ok (.iconst (-1), 1) := by decide +kernel
theorem dX11_row_18 : decode cX11_row 18 = .ok (.ireturn, 1) := by decide +kernel
theorem dX11_row_19 : decode cX11_row 19 = .ok (.aload_n 0, 1) := by decide +kernel
theorem dX11_row_20 : decode cX11_row 20 = .ok (.getfield 19, 3) := by decide +kernel
theorem dX11_row_23 : decode cX11_row 23 = .ok (.iload_n 1, 1) := by decide +kernel
theorem dX11_row_24 : decode cX11_row 24 = .ok (.invokevirtual 252, 3) := by decide +kernel
theorem dX11_row_27 : decode cX11_row 27 = .ok (.ifCond .ne 9, 3) := by decide +kernel
theorem dX11_row_30 : decode cX11_row 30 = .ok (.aload_n 0, 1) := by decide +kernel
theorem dX11_row_31 : decode cX11_row 31 = .ok (.iconst 2, 1) := by decide +kernel
theorem dX11_row_32 : decode cX11_row 32 = .ok (.invokevirtual 114, 3) := by decide +kernel
theorem dX11_row_35 : decode cX11_row 35 = .ok (.ireturn, 1) := by decide +kernel
theorem dX11_row_36 : decode cX11_row 36 = .ok (.aload_n 0, 1) := by decide +kernel
theorem dX11_row_37 : decode cX11_row 37 = .ok (.getfield 19, 3) := by decide +kernel
theorem dX11_row_40 : decode cX11_row 40 = .ok (.iload_n 1, 1) := by decide +kernel
theorem dX11_row_41 : decode cX11_row 41 = .ok (.iload_n 2, 1) := by decide +kernel
theorem dX11_row_42 : decode cX11_row 42 = .ok (.invokevirtual 255, 3) := by decide +kernel
theorem dX11_row_45 : decode cX11_row 45 = .ok (.iconst 1, 1) := by decide +kernel
theorem dX11_row_46 : decode cX11_row 46 = .ok (.ireturn, 1) := by decide +kernel
set_option maxRecDepth 20000 in
theorem ggX11_told_X10_hasPlace : GoodIn wsX11_told wsX10_hasPlace := goodIn_r _ [5] (by decide +kernel) (by decide +kernel)
set_option maxRecDepth 20000 in
theorem gX11_told_X10_hasPlace_n252 : GoodIn wsX11_told (wsX10_hasPlace) := ggX11_told_X10_hasPlace
set_option maxRecDepth 20000 in
theorem ggX11_told_X11_found : GoodIn wsX11_told wsX11_found := goodIn_r _ [10, 11, 12, 13, 14, 15, 16, 17, 18, 19, 20, 21, 22, 23, 24, 25] (by decide +kernel) (by decide +kernel)
set_option maxRecDepth 20000 in
theorem gX11_told_X11_found : GoodIn wsX11_told (wsV RX11 114 RX11 yX11_found wsX11_found) := goodIn_app (goodIn_of _ (by decide +kernel)) ggX11_told_X11_found
theorem dX11_told_0 : decode cX11_told 0 = .ok (.aload_n 0, 1) := by decide +kernel
theorem dX11_told_1 : decode cX11_told 1 = .ok (.getfield 19, 3) := by decide +kernel
theorem dX11_told_4 : decode cX11_told 4 = .ok (.iload_n 1, 1) := by decide +kernel
theorem dX11_told_5 : decode cX11_told 5 = .ok (.invokevirtual 252, 3) := by decide +kernel
theorem dX11_told_8 : decode cX11_told 8 = .ok (.ifCond .ne 9, 3) := by decide +kernel
theorem dX11_told_11 : decode cX11_told 11 = .ok (.aload_n 0, 1) := by decide +kernel
theorem dX11_told_12 : decode cX11_told 12 = .ok (.iconst 2, 1) := by decide +kernel
theorem dX11_told_13 : decode cX11_told 13 = .ok (.invokevirtual 114, 3) := by decide +kernel
theorem dX11_told_16 : decode cX11_told 16 = .ok (.ireturn, 1) := by decide +kernel
theorem dX11_told_17 : decode cX11_told 17 = .ok (.aload_n 0, 1) := by decide +kernel
theorem dX11_told_18 : decode cX11_told 18 = .ok (.getfield 19, 3) := by decide +kernel
theorem dX11_told_21 : decode cX11_told 21 = .ok (.getfield 136, 3) := by decide +kernel
theorem dX11_told_24 : decode cX11_told 24 = .ok (.iload_n 1, 1) := by decide +kernel
theorem dX11_told_25 : decode cX11_told 25 = .ok (.iaload, 1) := by decide +kernel
theorem dX11_told_26 : decode cX11_told 26 = .ok (.iconst (-1), 1) := by decide +kernel
theorem dX11_told_27 : decode cX11_told 27 = .ok (.if_icmp .ne 11, 3) := by decide +kernel
theorem dX11_told_30 : decode cX11_told 30 = .ok (.aload_n 0, 1) := by decide +kernel
theorem dX11_told_31 : decode cX11_told 31 = .ok (.iconst 1, 1) := by decide +kernel
theorem dX11_told_32 : decode cX11_told 32 = .ok (.invokevirtual 114, 3) := by decide +kernel
theorem dX11_told_35 : decode cX11_told 35 = .ok (.goto 12, 3) := by decide +kernel
theorem dX11_told_47 : decode cX11_told 47 = .ok (.ireturn, 1) := by decide +kernel
set_option maxRecDepth 20000 in
theorem ggX11_tear_X10_hasPlace : GoodIn wsX11_tear wsX10_hasPlace := goodIn_r _ [5] (by decide +kernel) (by decide +kernel)
set_option maxRecDepth 20000 in
theorem gX11_tear_X10_hasPlace_n252 : GoodIn wsX11_tear (wsX10_hasPlace) := ggX11_tear_X10_hasPlace
set_option maxRecDepth 20000 in
theorem ggX11_tear_X11_found : GoodIn wsX11_tear wsX11_found := goodIn_r _ [10, 11, 12, 18, 19, 20, 21, 22, 23, 24, 25, 26, 27, 28, 29, 30] (by decide +kernel) (by decide +kernel)
set_option maxRecDepth 20000 in
theorem gX11_tear_X11_found : GoodIn wsX11_tear (wsV RX11 114 RX11 yX11_found wsX11_found) := goodIn_app (goodIn_of _ (by decide +kernel)) ggX11_tear_X11_found
theorem dX11_tear_0 : decode cX11_tear 0 = .ok (.aload_n 0, 1) := by decide +kernel
theorem dX11_tear_1 : decode cX11_tear 1 = .ok (.getfield 19, 3) := by decide +kernel
theorem dX11_tear_4 : decode cX11_tear 4 = .ok (.iload_n 1, 1) := by decide +kernel
theorem dX11_tear_5 : decode cX11_tear 5 = .ok (.invokevirtual 252, 3) := by decide +kernel
theorem dX11_tear_8 : decode cX11_tear 8 = .ok (.ifCond .ne 9, 3) := by decide +kernel
theorem dX11_tear_11 : decode cX11_tear 11 = .ok (.aload_n 0, 1) := by decide +kernel
theorem dX11_tear_12 : decode cX11_tear 12 = .ok (.iconst 2, 1) := by decide +kernel
theorem dX11_tear_13 : decode cX11_tear 13 = .ok (.invokevirtual 114, 3) := by decide +kernel
theorem dX11_tear_16 : decode cX11_tear 16 = .ok (.ireturn, 1) := by decide +kernel
theorem dX11_tear_17 : decode cX11_tear 17 = .ok (.aload_n 0, 1) := by decide +kernel
theorem dX11_tear_18 : decode cX11_tear 18 = .ok (.getfield 19, 3) := by decide +kernel
theorem dX11_tear_21 : decode cX11_tear 21 = .ok (.getfield 136, 3) := by decide +kernel
theorem dX11_tear_24 : decode cX11_tear 24 = .ok (.iload_n 1, 1) := by decide +kernel
theorem dX11_tear_25 : decode cX11_tear 25 = .ok (.iaload, 1) := by decide +kernel
theorem dX11_tear_26 : decode cX11_tear 26 = .ok (.iconst (-1), 1) := by decide +kernel
theorem dX11_tear_27 : decode cX11_tear 27 = .ok (.if_icmp .ne 9, 3) := by decide +kernel
theorem dX11_tear_30 : decode cX11_tear 30 = .ok (.aload_n 0, 1) := by decide +kernel
theorem dX11_tear_31 : decode cX11_tear 31 = .ok (.iconst 1, 1) := by decide +kernel
theorem dX11_tear_32 : decode cX11_tear 32 = .ok (.invokevirtual 114, 3) := by decide +kernel
theorem dX11_tear_35 : decode cX11_tear 35 = .ok (.ireturn, 1) := by decide +kernel
set_option maxRecDepth 20000 in
theorem ggX11_copy_X10_hasRun : GoodIn wsX11_copy wsX10_hasRun := goodIn_r _ [5] (by decide +kernel) (by decide +kernel)
set_option maxRecDepth 20000 in
theorem gX11_copy_X10_hasRun_n259 : GoodIn wsX11_copy (wsX10_hasRun) := ggX11_copy_X10_hasRun
set_option maxRecDepth 20000 in
theorem ggX11_copy_X11_found : GoodIn wsX11_copy wsX11_found := goodIn_r _ [10, 11, 12, 22, 23, 24, 25, 26, 27, 28, 29, 30, 31, 32, 33, 34] (by decide +kernel) (by decide +kernel)
set_option maxRecDepth 20000 in
theorem gX11_copy_X11_found : GoodIn wsX11_copy (wsV RX11 114 RX11 yX11_found wsX11_found) := goodIn_app (goodIn_of _ (by decide +kernel)) ggX11_copy_X11_found
set_option maxRecDepth 20000 in
theorem ggX11_copy_X10_move : GoodIn wsX11_copy wsX10_move := goodIn_r _ [15, 16, 17, 18, 19, 20, 21, 35, 36, 37] (by decide +kernel) (by decide +kernel)
set_option maxRecDepth 20000 in
theorem gX11_copy_X10_move_n262 : GoodIn wsX11_copy (wsX10_move) := ggX11_copy_X10_move
theorem dX11_copy_0 : decode cX11_copy 0 = .ok (.aload_n 0, 1) := by decide +kernel
theorem dX11_copy_1 : decode cX11_copy 1 = .ok (.getfield 19, 3) := by decide +kernel
theorem dX11_copy_4 : decode cX11_copy 4 = .ok (.iload_n 1, 1) := by decide +kernel
theorem dX11_copy_5 : decode cX11_copy 5 = .ok (.iload_n 3, 1) := by decide +kernel
theorem dX11_copy_6 : decode cX11_copy 6 = .ok (.invokevirtual 259, 3) := by decide +kernel
theorem dX11_copy_9 : decode cX11_copy 9 = .ok (.ifCond .eq 15, 3) := by decide +kernel
theorem dX11_copy_12 : decode cX11_copy 12 = .ok (.aload_n 0, 1) := by decide +kernel
theorem dX11_copy_13 : decode cX11_copy 13 = .ok (.getfield 19, 3) := by decide +kernel
theorem dX11_copy_16 : decode cX11_copy 16 = .ok (.iload_n 2, 1) := by decide +kernel
theorem dX11_copy_17 : decode cX11_copy 17 = .ok (.iload_n 3, 1) := by decide +kernel
theorem dX11_copy_18 : decode cX11_copy 18 = .ok (.invokevirtual 259, 3) := by decide +kernel
theorem dX11_copy_21 : decode cX11_copy 21 = .ok (.ifCond .ne 9, 3) := by decide +kernel
theorem dX11_copy_24 : decode cX11_copy 24 = .ok (.aload_n 0, 1) := by decide +kernel
theorem dX11_copy_25 : decode cX11_copy 25 = .ok (.iconst 2, 1) := by decide +kernel
theorem dX11_copy_26 : decode cX11_copy 26 = .ok (.invokevirtual 114, 3) := by decide +kernel
theorem dX11_copy_29 : decode cX11_copy 29 = .ok (.ireturn, 1) := by decide +kernel
theorem dX11_copy_30 : decode cX11_copy 30 = .ok (.aload_n 0, 1) := by decide +kernel
theorem dX11_copy_31 : decode cX11_copy 31 = .ok (.getfield 19, 3) := by decide +kernel
theorem dX11_copy_34 : decode cX11_copy 34 = .ok (.iload_n 1, 1) := by decide +kernel
theorem dX11_copy_35 : decode cX11_copy 35 = .ok (.iload_n 2, 1) := by decide +kernel
theorem dX11_copy_36 : decode cX11_copy 36 = .ok (.iload_n 3, 1) := by decide +kernel
theorem dX11_copy_37 : decode cX11_copy 37 = .ok (.invokevirtual 262, 3) := by decide +kernel
theorem dX11_copy_40 : decode cX11_copy 40 = .ok (.iconst 1, 1) := by decide +kernel
theorem dX11_copy_41 : decode cX11_copy 41 = .ok (.ireturn, 1) := by decide +kernel
set_option maxRecDepth 20000 in
theorem ggX11_seatings_X11_bringSeats : GoodIn wsX11_seatings wsX11_bringSeats := goodIn_r _ [6, 1, 7, 8, 9, 10, 11, 12, 13, 14, 15, 16, 17, 18, 19, 20, 21, 22, 23, 24, 25, 26, 27, 28, 29, 30, 31, 32, 33, 34, 35, 36, 37, 38, 5, 39, 40, 41, 42, 43, 44, 45, 46, 47, 48, 49, 50, 51, 52, 53, 54, 55, 56, 57, 58, 59, 60, 61, 62, 63, 64, 65, 66, 67] (by decide +kernel) (by decide +kernel)
set_option maxRecDepth 20000 in
theorem gX11_seatings_X11_bringSeats : GoodIn wsX11_seatings (wsV RX11 266 RX11 yX11_bringSeats wsX11_bringSeats) := goodIn_app (goodIn_of _ (by decide +kernel)) ggX11_seatings_X11_bringSeats
theorem dX11_seatings_0 : decode cX11_seatings 0 = .ok (.aload_n 0, 1) := by decide +kernel
theorem dX11_seatings_1 : decode cX11_seatings 1 = .ok (.invokevirtual 266, 3) := by decide +kernel
theorem dX11_seatings_4 : decode cX11_seatings 4 = .ok (.aload_n 0, 1) := by decide +kernel
theorem dX11_seatings_5 : decode cX11_seatings 5 = .ok (.getfield 79, 3) := by decide +kernel
theorem dX11_seatings_8 : decode cX11_seatings 8 = .ok (.getfield 269, 3) := by decide +kernel
theorem dX11_seatings_11 : decode cX11_seatings 11 = .ok (.ireturn, 1) := by decide +kernel
set_option maxRecDepth 20000 in
theorem ggX11_seat_X11_bringSeats : GoodIn wsX11_seat wsX11_bringSeats := goodIn_r _ [6, 1, 7, 8, 9, 10, 11, 12, 13, 14, 15, 16, 17, 18, 19, 20, 21, 22, 23, 24, 25, 26, 27, 28, 29, 30, 31, 32, 33, 34, 35, 36, 37, 38, 5, 39, 40, 41, 42, 43, 44, 45, 46, 47, 48, 49, 50, 51, 52, 53, 54, 55, 56, 57, 58, 59, 60, 61, 62, 63, 64, 65, 66, 67] (by decide +kernel) (by decide +kernel)
set_option maxRecDepth 20000 in
theorem gX11_seat_X11_bringSeats : GoodIn wsX11_seat (wsV RX11 266 RX11 yX11_bringSeats wsX11_bringSeats) := goodIn_app (goodIn_of _ (by decide +kernel)) ggX11_seat_X11_bringSeats
theorem dX11_seat_0 : decode cX11_seat 0 = .ok (.aload_n 0, 1) := by decide +kernel
theorem dX11_seat_1 : decode cX11_seat 1 = .ok (.invokevirtual 266, 3) := by decide +kernel
theorem dX11_seat_4 : decode cX11_seat 4 = .ok (.aload_n 0, 1) := by decide +kernel
theorem dX11_seat_5 : decode cX11_seat 5 = .ok (.getfield 79, 3) := by decide +kernel
theorem dX11_seat_8 : decode cX11_seat 8 = .ok (.getfield 233, 3) := by decide +kernel
theorem dX11_seat_11 : decode cX11_seat 11 = .ok (.ifCond .eq 30, 3) := by decide +kernel
theorem dX11_seat_14 : decode cX11_seat 14 = .ok (.iload_n 1, 1) := by decide +kernel
theorem dX11_seat_15 : decode cX11_seat 15 = .ok (.ifCond .lt 26, 3) := by decide +kernel
theorem dX11_seat_18 : decode cX11_seat 18 = .ok (.iload_n 1, 1) := by decide +kernel
theorem dX11_seat_19 : decode cX11_seat 19 = .ok (.aload_n 0, 1) := by decide +kernel
theorem dX11_seat_20 : decode cX11_seat 20 = .ok (.getfield 79, 3) := by decide +kernel
theorem dX11_seat_23 : decode cX11_seat 23 = .ok (.getfield 236, 3) := by decide +kernel
theorem dX11_seat_26 : decode cX11_seat 26 = .ok (.if_icmp .ge 15, 3) := by decide +kernel
theorem dX11_seat_41 : decode cX11_seat 41 = .ok (.bipush (-9), 2) := by decide +kernel
theorem dX11_seat_43 : decode cX11_seat 43 = .ok (.ireturn, 1) := by decide +kernel
set_option maxRecDepth 20000 in
theorem ggX11_count_X4_pairs : GoodIn wsX11_count wsX4_pairs := goodIn_r _ [7, 8, 9, 10, 11, 12, 13, 14, 15, 16, 35, 36, 37] (by decide +kernel) (by decide +kernel)
set_option maxRecDepth 20000 in
theorem gX11_count_X4_pairs_n148 : GoodIn wsX11_count (wsX4_pairs) := ggX11_count_X4_pairs
set_option maxRecDepth 20000 in
theorem ggX11_count_X10_present : GoodIn wsX11_count wsX10_present := goodIn_r _ [20, 21, 38, 39, 40] (by decide +kernel) (by decide +kernel)
set_option maxRecDepth 20000 in
theorem gX11_count_X10_present_n272 : GoodIn wsX11_count (wsX10_present) := ggX11_count_X10_present
theorem dX11_count_0 : decode cX11_count 0 = .ok (.iload_n 1, 1) := by decide +kernel
theorem dX11_count_1 : decode cX11_count 1 = .ok (.tableswitch 75 0 4 #[35, 43, 51, 59, 67], 35) := by decide +kernel
theorem dX11_count_36 : decode cX11_count 36 = .ok (.aload_n 0, 1) := by decide +kernel
theorem dX11_count_37 : decode cX11_count 37 = .ok (.getfield 10, 3) := by decide +kernel
theorem dX11_count_40 : decode cX11_count 40 = .ok (.getfield 142, 3) := by decide +kernel
theorem dX11_count_43 : decode cX11_count 43 = .ok (.ireturn, 1) := by decide +kernel
theorem dX11_count_44 : decode cX11_count 44 = .ok (.aload_n 0, 1) := by decide +kernel
theorem dX11_count_45 : decode cX11_count 45 = .ok (.getfield 10, 3) := by decide +kernel
theorem dX11_count_48 : decode cX11_count 48 = .ok (.invokevirtual 148, 3) := by decide +kernel
theorem dX11_count_51 : decode cX11_count 51 = .ok (.ireturn, 1) := by decide +kernel
theorem dX11_count_52 : decode cX11_count 52 = .ok (.aload_n 0, 1) := by decide +kernel
theorem dX11_count_53 : decode cX11_count 53 = .ok (.getfield 19, 3) := by decide +kernel
theorem dX11_count_56 : decode cX11_count 56 = .ok (.getfield 133, 3) := by decide +kernel
theorem dX11_count_59 : decode cX11_count 59 = .ok (.ireturn, 1) := by decide +kernel
theorem dX11_count_60 : decode cX11_count 60 = .ok (.aload_n 0, 1) := by decide +kernel
theorem dX11_count_61 : decode cX11_count 61 = .ok (.getfield 19, 3) := by decide +kernel
theorem dX11_count_64 : decode cX11_count 64 = .ok (.invokevirtual 272, 3) := by decide +kernel
theorem dX11_count_67 : decode cX11_count 67 = .ok (.ireturn, 1) := by decide +kernel
theorem dX11_count_68 : decode cX11_count 68 = .ok (.aload_n 0, 1) := by decide +kernel
theorem dX11_count_69 : decode cX11_count 69 = .ok (.getfield 26, 3) := by decide +kernel
theorem dX11_count_72 : decode cX11_count 72 = .ok (.getfield 158, 3) := by decide +kernel
theorem dX11_count_75 : decode cX11_count 75 = .ok (.ireturn, 1) := by decide +kernel
theorem dX11_count_76 : decode cX11_count 76 = .ok (.iconst (-1), 1) := by decide +kernel
theorem dX11_count_77 : decode cX11_count 77 = .ok (.ireturn, 1) := by decide +kernel
theorem dX11_finding_0 : decode cX11_finding 0 = .ok (.aload_n 0, 1) := by decide +kernel
theorem dX11_finding_1 : decode cX11_finding 1 = .ok (.getfield 86, 3) := by decide +kernel
theorem dX11_finding_4 : decode cX11_finding 4 = .ok (.ireturn, 1) := by decide +kernel
theorem dX11_findings_0 : decode cX11_findings 0 = .ok (.iload_n 1, 1) := by decide +kernel
theorem dX11_findings_1 : decode cX11_findings 1 = .ok (.iconst 1, 1) := by decide +kernel
theorem dX11_findings_2 : decode cX11_findings 2 = .ok (.if_icmp .lt 17, 3) := by decide +kernel
theorem dX11_findings_5 : decode cX11_findings 5 = .ok (.iload_n 1, 1) := by decide +kernel
theorem dX11_findings_6 : decode cX11_findings 6 = .ok (.iconst 4, 1) := by decide +kernel
theorem dX11_findings_7 : decode cX11_findings 7 = .ok (.if_icmp .gt 12, 3) := by decide +kernel
theorem dX11_findings_10 : decode cX11_findings 10 = .ok (.aload_n 0, 1) := by decide +kernel
theorem dX11_findings_11 : decode cX11_findings 11 = .ok (.getfield 82, 3) := by decide +kernel
theorem dX11_findings_14 : decode cX11_findings 14 = .ok (.iload_n 1, 1) := by decide +kernel
theorem dX11_findings_15 : decode cX11_findings 15 = .ok (.iaload, 1) := by decide +kernel
theorem dX11_findings_16 : decode cX11_findings 16 = .ok (.goto 4, 3) := by decide +kernel
theorem dX11_findings_19 : decode cX11_findings 19 = .ok (.iconst (-1), 1) := by decide +kernel
theorem dX11_findings_20 : decode cX11_findings 20 = .ok (.ireturn, 1) := by decide +kernel
set_option maxRecDepth 20000 in
theorem ggX11_digest_X11_mix : GoodIn wsX11_digest wsX11_mix := goodIn_r _ [8, 9] (by decide +kernel) (by decide +kernel)
set_option maxRecDepth 20000 in
theorem gX11_digest_X11_mix : GoodIn wsX11_digest (va_wsS RX11 277 yX11_mix wsX11_mix) := goodIn_app (goodIn_of _ (by decide +kernel)) ggX11_digest_X11_mix
set_option maxRecDepth 20000 in
theorem ggX11_digest_X11_mixAll : GoodIn wsX11_digest wsX11_mixAll := goodIn_r _ [12, 5, 6, 7, 8, 9] (by decide +kernel) (by decide +kernel)
set_option maxRecDepth 20000 in
theorem gX11_digest_X11_mixAll : GoodIn wsX11_digest (va_wsS RX11 281 yX11_mixAll wsX11_mixAll) := goodIn_app (goodIn_of _ (by decide +kernel)) ggX11_digest_X11_mixAll
set_option maxRecDepth 20000 in
theorem ggX11_digest_X6_length : GoodIn wsX11_digest wsX6_length := goodIn_r _ [16, 17, 18, 35, 36, 37, 38, 39, 40, 41, 42, 43] (by decide +kernel) (by decide +kernel)
set_option maxRecDepth 20000 in
theorem gX11_digest_X6_length_n181 : GoodIn wsX11_digest (wsX6_length) := ggX11_digest_X6_length
theorem dX11_digest_0 : decode cX11_digest 0 = .ok (.ldc2_w 275, 3) := by decide +kernel
theorem dX11_digest_3 : decode cX11_digest 3 = .ok (.aload_n 0, 1) := by decide +kernel
theorem dX11_digest_4 : decode cX11_digest 4 = .ok (.getfield 10, 3) := by decide +kernel
theorem dX11_digest_7 : decode cX11_digest 7 = .ok (.getfield 142, 3) := by decide +kernel
theorem dX11_digest_10 : decode cX11_digest 10 = .ok (.invokestatic 277, 3) := by decide +kernel
theorem dX11_digest_13 : decode cX11_digest 13 = .ok (.lstore_n 1, 1) := by decide +kernel
theorem dX11_digest_14 : decode cX11_digest 14 = .ok (.lload_n 1, 1) := by decide +kernel
theorem dX11_digest_15 : decode cX11_digest 15 = .ok (.aload_n 0, 1) := by decide +kernel
theorem dX11_digest_16 : decode cX11_digest 16 = .ok (.getfield 10, 3) := by decide +kernel
theorem dX11_digest_19 : decode cX11_digest 19 = .ok (.getfield 108, 3) := by decide +kernel
theorem dX11_digest_22 : decode cX11_digest 22 = .ok (.aload_n 0, 1) := by decide +kernel
theorem dX11_digest_23 : decode cX11_digest 23 = .ok (.getfield 10, 3) := by decide +kernel
theorem dX11_digest_26 : decode cX11_digest 26 = .ok (.getfield 142, 3) := by decide +kernel
theorem dX11_digest_29 : decode cX11_digest 29 = .ok (.invokestatic 281, 3) := by decide +kernel
theorem dX11_digest_32 : decode cX11_digest 32 = .ok (.lstore_n 1, 1) := by decide +kernel
theorem dX11_digest_33 : decode cX11_digest 33 = .ok (.lload_n 1, 1) := by decide +kernel
theorem dX11_digest_34 : decode cX11_digest 34 = .ok (.aload_n 0, 1) := by decide +kernel
theorem dX11_digest_35 : decode cX11_digest 35 = .ok (.getfield 26, 3) := by decide +kernel
theorem dX11_digest_38 : decode cX11_digest 38 = .ok (.getfield 183, 3) := by decide +kernel
theorem dX11_digest_41 : decode cX11_digest 41 = .ok (.aload_n 0, 1) := by decide +kernel
theorem dX11_digest_42 : decode cX11_digest 42 = .ok (.getfield 26, 3) := by decide +kernel
theorem dX11_digest_45 : decode cX11_digest 45 = .ok (.invokevirtual 181, 3) := by decide +kernel
theorem dX11_digest_48 : decode cX11_digest 48 = .ok (.invokestatic 281, 3) := by decide +kernel
theorem dX11_digest_51 : decode cX11_digest 51 = .ok (.lstore_n 1, 1) := by decide +kernel
theorem dX11_digest_52 : decode cX11_digest 52 = .ok (.lload_n 1, 1) := by decide +kernel
theorem dX11_digest_53 : decode cX11_digest 53 = .ok (.aload_n 0, 1) := by decide +kernel
theorem dX11_digest_54 : decode cX11_digest 54 = .ok (.getfield 19, 3) := by decide +kernel
theorem dX11_digest_57 : decode cX11_digest 57 = .ok (.getfield 133, 3) := by decide +kernel
theorem dX11_digest_60 : decode cX11_digest 60 = .ok (.invokestatic 277, 3) := by decide +kernel
theorem dX11_digest_63 : decode cX11_digest 63 = .ok (.lstore_n 1, 1) := by decide +kernel
theorem dX11_digest_64 : decode cX11_digest 64 = .ok (.lload_n 1, 1) := by decide +kernel
theorem dX11_digest_65 : decode cX11_digest 65 = .ok (.aload_n 0, 1) := by decide +kernel
theorem dX11_digest_66 : decode cX11_digest 66 = .ok (.getfield 19, 3) := by decide +kernel
theorem dX11_digest_69 : decode cX11_digest 69 = .ok (.getfield 136, 3) := by decide +kernel
theorem dX11_digest_72 : decode cX11_digest 72 = .ok (.bipush 12, 2) := by decide +kernel
theorem dX11_digest_74 : decode cX11_digest 74 = .ok (.invokestatic 281, 3) := by decide +kernel
theorem dX11_digest_77 : decode cX11_digest 77 = .ok (.lstore_n 1, 1) := by decide +kernel
theorem dX11_digest_78 : decode cX11_digest 78 = .ok (.lload_n 1, 1) := by decide +kernel
theorem dX11_digest_79 : decode cX11_digest 79 = .ok (.aload_n 0, 1) := by decide +kernel
theorem dX11_digest_80 : decode cX11_digest 80 = .ok (.getfield 26, 3) := by decide +kernel
theorem dX11_digest_83 : decode cX11_digest 83 = .ok (.getfield 285, 3) := by decide +kernel
theorem dX11_digest_86 : decode cX11_digest 86 = .ok (.aload_n 0, 1) := by decide +kernel
theorem dX11_digest_87 : decode cX11_digest 87 = .ok (.getfield 26, 3) := by decide +kernel
theorem dX11_digest_90 : decode cX11_digest 90 = .ok (.getfield 158, 3) := by decide +kernel
theorem dX11_digest_93 : decode cX11_digest 93 = .ok (.invokestatic 281, 3) := by decide +kernel
theorem dX11_digest_96 : decode cX11_digest 96 = .ok (.lreturn, 1) := by decide +kernel
theorem dX11_mix_0 : decode cX11_mix 0 = .ok (.ldc2_w 288, 3) := by decide +kernel
theorem dX11_mix_3 : decode cX11_mix 3 = .ok (.lload_n 0, 1) := by decide +kernel
theorem dX11_mix_4 : decode cX11_mix 4 = .ok (.lmul, 1) := by decide +kernel
theorem dX11_mix_5 : decode cX11_mix 5 = .ok (.iload_n 2, 1) := by decide +kernel
theorem dX11_mix_6 : decode cX11_mix 6 = .ok (.i2l, 1) := by decide +kernel
theorem dX11_mix_7 : decode cX11_mix 7 = .ok (.ladd, 1) := by decide +kernel
theorem dX11_mix_8 : decode cX11_mix 8 = .ok (.lreturn, 1) := by decide +kernel
set_option maxRecDepth 20000 in
theorem ggX11_mixAll_X11_mix : GoodIn wsX11_mixAll wsX11_mix := goodIn_r _ [4, 5] (by decide +kernel) (by decide +kernel)
set_option maxRecDepth 20000 in
theorem gX11_mixAll_X11_mix : GoodIn wsX11_mixAll (va_wsS RX11 277 yX11_mix wsX11_mix) := goodIn_app (goodIn_of _ (by decide +kernel)) ggX11_mixAll_X11_mix
theorem dX11_mixAll_0 : decode cX11_mixAll 0 = .ok (.lload_n 0, 1) := by decide +kernel
theorem dX11_mixAll_1 : decode cX11_mixAll 1 = .ok (.lstore 4, 2) := by decide +kernel
theorem dX11_mixAll_3 : decode cX11_mixAll 3 = .ok (.iconst 0, 1) := by decide +kernel
theorem dX11_mixAll_4 : decode cX11_mixAll 4 = .ok (.istore 6, 2) := by decide +kernel
theorem dX11_mixAll_6 : decode cX11_mixAll 6 = .ok (.iload 6, 2) := by decide +kernel
theorem dX11_mixAll_8 : decode cX11_mixAll 8 = .ok (.iload_n 3, 1) := by decide +kernel
theorem dX11_mixAll_9 : decode cX11_mixAll 9 = .ok (.if_icmp .ge 27, 3) := by decide +kernel
theorem dX11_mixAll_12 : decode cX11_mixAll 12 = .ok (.iload 6, 2) := by decide +kernel
theorem dX11_mixAll_14 : decode cX11_mixAll 14 = .ok (.aload_n 2, 1) := by decide +kernel
theorem dX11_mixAll_15 : decode cX11_mixAll 15 = .ok (.arraylength, 1) := by decide +kernel
theorem dX11_mixAll_16 : decode cX11_mixAll 16 = .ok (.if_icmp .ge 20, 3) := by decide +kernel
theorem dX11_mixAll_19 : decode cX11_mixAll 19 = .ok (.lload 4, 2) := by decide +kernel
theorem dX11_mixAll_21 : decode cX11_mixAll 21 = .ok (.aload_n 2, 1) := by decide +kernel
theorem dX11_mixAll_22 : decode cX11_mixAll 22 = .ok (.iload 6, 2) := by decide +kernel
theorem dX11_mixAll_24 : decode cX11_mixAll 24 = .ok (.iaload, 1) := by decide +kernel
theorem dX11_mixAll_25 : decode cX11_mixAll 25 = .ok (.invokestatic 277, 3) := by decide +kernel
theorem dX11_mixAll_28 : decode cX11_mixAll 28 = .ok (.lstore 4, 2) := by decide +kernel
theorem dX11_mixAll_30 : decode cX11_mixAll 30 = .ok (.iinc 6 1, 3) := by decide +kernel
theorem dX11_mixAll_33 : decode cX11_mixAll 33 = .ok (.goto (-27), 3) := by decide +kernel
theorem dX11_mixAll_36 : decode cX11_mixAll 36 = .ok (.lload 4, 2) := by decide +kernel
theorem dX11_mixAll_38 : decode cX11_mixAll 38 = .ok (.lreturn, 1) := by decide +kernel
theorem dX11_found_0 : decode cX11_found 0 = .ok (.aload_n 0, 1) := by decide +kernel
theorem dX11_found_1 : decode cX11_found 1 = .ok (.iload_n 1, 1) := by decide +kernel
theorem dX11_found_2 : decode cX11_found 2 = .ok (.putfield 86, 3) := by decide +kernel
theorem dX11_found_5 : decode cX11_found 5 = .ok (.aload_n 0, 1) := by decide +kernel
theorem dX11_found_6 : decode cX11_found 6 = .ok (.getfield 82, 3) := by decide +kernel
theorem dX11_found_9 : decode cX11_found 9 = .ok (.iload_n 1, 1) := by decide +kernel
theorem dX11_found_10 : decode cX11_found 10 = .ok (.dup2, 1) := by decide +kernel
theorem dX11_found_11 : decode cX11_found 11 = .ok (.iaload, 1) := by decide +kernel
theorem dX11_found_12 : decode cX11_found 12 = .ok (.iconst 1, 1) := by decide +kernel
theorem dX11_found_13 : decode cX11_found 13 = .ok (.iadd, 1) := by decide +kernel
theorem dX11_found_14 : decode cX11_found 14 = .ok (.iastore, 1) := by decide +kernel
theorem dX11_found_15 : decode cX11_found 15 = .ok (.bipush (-3), 2) := by decide +kernel
theorem dX11_found_17 : decode cX11_found 17 = .ok (.ireturn, 1) := by decide +kernel
set_option maxRecDepth 20000 in
theorem ggX11_startGraph_X4_restart : GoodIn wsX11_startGraph wsX4_restart := goodIn_r _ [6, 7, 8, 9, 10, 11, 12, 13, 43, 44, 45] (by decide +kernel) (by decide +kernel)
set_option maxRecDepth 20000 in
theorem gX11_startGraph_X4_restart_n290 : GoodIn wsX11_startGraph (wsX4_restart) := ggX11_startGraph_X4_restart
set_option maxRecDepth 20000 in
theorem ggX11_startGraph_X6_drop : GoodIn wsX11_startGraph wsX6_drop := goodIn_r _ [17, 18, 46, 47, 48, 49, 50, 51, 52, 53, 54] (by decide +kernel) (by decide +kernel)
set_option maxRecDepth 20000 in
theorem gX11_startGraph_X6_drop_n105 : GoodIn wsX11_startGraph (wsX6_drop) := ggX11_startGraph_X6_drop
set_option maxRecDepth 20000 in
theorem ggX11_startGraph_X4_all : GoodIn wsX11_startGraph wsX4_all := goodIn_r _ [21, 7, 43, 44, 45] (by decide +kernel) (by decide +kernel)
set_option maxRecDepth 20000 in
theorem gX11_startGraph_X4_all_n164 : GoodIn wsX11_startGraph (wsX4_all) := ggX11_startGraph_X4_all
set_option maxRecDepth 20000 in
theorem ggX11_startGraph_X6_keepDrafted : GoodIn wsX11_startGraph wsX6_keepDrafted := goodIn_r _ [24, 25, 26, 27, 28, 29, 46, 47, 48, 49, 50, 51, 52, 53, 54] (by decide +kernel) (by decide +kernel)
set_option maxRecDepth 20000 in
theorem gX11_startGraph_X6_keepDrafted_n291 : GoodIn wsX11_startGraph (wsX6_keepDrafted) := ggX11_startGraph_X6_keepDrafted
theorem dX11_startGraph_0 : decode cX11_startGraph 0 = .ok (.aload_n 0, 1) := by decide +kernel
theorem dX11_startGraph_1 : decode cX11_startGraph 1 = .ok (.getfield 10, 3) := by decide +kernel
theorem dX11_startGraph_4 : decode cX11_startGraph 4 = .ok (.iload_n 1, 1) := by decide +kernel
theorem dX11_startGraph_5 : decode cX11_startGraph 5 = .ok (.invokevirtual 290, 3) := by decide +kernel
theorem dX11_startGraph_8 : decode cX11_startGraph 8 = .ok (.aload_n 0, 1) := by decide +kernel
theorem dX11_startGraph_9 : decode cX11_startGraph 9 = .ok (.getfield 26, 3) := by decide +kernel
theorem dX11_startGraph_12 : decode cX11_startGraph 12 = .ok (.invokevirtual 105, 3) := by decide +kernel
theorem dX11_startGraph_15 : decode cX11_startGraph 15 = .ok (.aload_n 0, 1) := by decide +kernel
theorem dX11_startGraph_16 : decode cX11_startGraph 16 = .ok (.getfield 26, 3) := by decide +kernel
theorem dX11_startGraph_19 : decode cX11_startGraph 19 = .ok (.aload_n 0, 1) := by decide +kernel
theorem dX11_startGraph_20 : decode cX11_startGraph 20 = .ok (.getfield 10, 3) := by decide +kernel
theorem dX11_startGraph_23 : decode cX11_startGraph 23 = .ok (.invokevirtual 164, 3) := by decide +kernel
theorem dX11_startGraph_26 : decode cX11_startGraph 26 = .ok (.invokevirtual 291, 3) := by decide +kernel
theorem dX11_startGraph_29 : decode cX11_startGraph 29 = .ok (.return_, 1) := by decide +kernel
set_option maxRecDepth 20000 in
theorem ggX11_bringSpans_X1_bring : GoodIn wsX11_bringSpans wsX1_bring := goodIn_r _ [7, 8, 9, 10, 11, 12, 13, 14, 15, 16, 17, 18, 5, 19, 20, 21, 22, 23, 24, 25, 26, 27, 28, 29, 30, 31, 32, 33, 34, 35, 36, 98, 99, 100, 101, 102, 103, 104, 105, 95, 96, 97] (by decide +kernel) (by decide +kernel)
set_option maxRecDepth 20000 in
theorem gX11_bringSpans_X1_bring_n193 : GoodIn wsX11_bringSpans (wsX1_bring) := ggX11_bringSpans_X1_bring
set_option maxRecDepth 20000 in
theorem ggX11_bringSpans_X0_restart : GoodIn wsX11_bringSpans wsX0_restart := goodIn_r _ [45, 46, 47, 87, 88, 89, 90, 91, 92, 93, 94] (by decide +kernel) (by decide +kernel)
set_option maxRecDepth 20000 in
theorem gX11_bringSpans_X0_restart_n303 : GoodIn wsX11_bringSpans (wsX0_restart) := ggX11_bringSpans_X0_restart
set_option maxRecDepth 20000 in
theorem ggX11_bringSpans_X0_findFirst : GoodIn wsX11_bringSpans wsX0_findFirst := goodIn_r _ [57, 58, 46, 41, 59, 60, 61, 62, 63, 64, 65, 66, 67, 38, 68, 69, 70, 71, 72, 73, 47, 54, 24, 25, 26, 87, 88, 89, 90, 91, 92, 93, 94] (by decide +kernel) (by decide +kernel)
set_option maxRecDepth 20000 in
theorem gX11_bringSpans_X0_findFirst_n310 : GoodIn wsX11_bringSpans (wsX0_findFirst) := ggX11_bringSpans_X0_findFirst
theorem dX11_bringSpans_0 : decode cX11_bringSpans 0 = .ok (.aload_n 0, 1) := by decide +kernel
theorem dX11_bringSpans_1 : decode cX11_bringSpans 1 = .ok (.getfield 75, 3) := by decide +kernel
theorem dX11_bringSpans_4 : decode cX11_bringSpans 4 = .ok (.getfield 294, 3) := by decide +kernel
theorem dX11_bringSpans_7 : decode cX11_bringSpans 7 = .ok (.aload_n 0, 1) := by decide +kernel
theorem dX11_bringSpans_8 : decode cX11_bringSpans 8 = .ok (.getfield 10, 3) := by decide +kernel
theorem dX11_bringSpans_11 : decode cX11_bringSpans 11 = .ok (.getfield 297, 3) := by decide +kernel
theorem dX11_bringSpans_14 : decode cX11_bringSpans 14 = .ok (.if_icmp .ne 4, 3) := by decide +kernel
theorem dX11_bringSpans_18 : decode cX11_bringSpans 18 = .ok (.aload_n 0, 1) := by decide +kernel
theorem dX11_bringSpans_19 : decode cX11_bringSpans 19 = .ok (.getfield 75, 3) := by decide +kernel
theorem dX11_bringSpans_22 : decode cX11_bringSpans 22 = .ok (.aload_n 0, 1) := by decide +kernel
theorem dX11_bringSpans_23 : decode cX11_bringSpans 23 = .ok (.getfield 10, 3) := by decide +kernel
theorem dX11_bringSpans_26 : decode cX11_bringSpans 26 = .ok (.getfield 297, 3) := by decide +kernel
theorem dX11_bringSpans_29 : decode cX11_bringSpans 29 = .ok (.putfield 294, 3) := by decide +kernel
theorem dX11_bringSpans_32 : decode cX11_bringSpans 32 = .ok (.aload_n 0, 1) := by decide +kernel
theorem dX11_bringSpans_33 : decode cX11_bringSpans 33 = .ok (.getfield 42, 3) := by decide +kernel
theorem dX11_bringSpans_36 : decode cX11_bringSpans 36 = .ok (.aload_n 0, 1) := by decide +kernel
theorem dX11_bringSpans_37 : decode cX11_bringSpans 37 = .ok (.getfield 10, 3) := by decide +kernel
theorem dX11_bringSpans_40 : decode cX11_bringSpans 40 = .ok (.invokevirtual 193, 3) := by decide +kernel
theorem dX11_bringSpans_43 : decode cX11_bringSpans 43 = .ok (.aload_n 0, 1) := by decide +kernel
theorem dX11_bringSpans_44 : decode cX11_bringSpans 44 = .ok (.getfield 42, 3) := by decide +kernel
theorem dX11_bringSpans_47 : decode cX11_bringSpans 47 = .ok (.getfield 194, 3) := by decide +kernel
theorem dX11_bringSpans_50 : decode cX11_bringSpans 50 = .ok (.bipush 12, 2) := by decide +kernel
theorem dX11_bringSpans_52 : decode cX11_bringSpans 52 = .ok (.if_icmp .le 11, 3) := by decide +kernel
theorem dX11_bringSpans_63 : decode cX11_bringSpans 63 = .ok (.aload_n 0, 1) := by decide +kernel
theorem dX11_bringSpans_64 : decode cX11_bringSpans 64 = .ok (.getfield 75, 3) := by decide +kernel
theorem dX11_bringSpans_67 : decode cX11_bringSpans 67 = .ok (.aload_n 0, 1) := by decide +kernel
theorem dX11_bringSpans_68 : decode cX11_bringSpans 68 = .ok (.getfield 42, 3) := by decide +kernel
theorem dX11_bringSpans_71 : decode cX11_bringSpans 71 = .ok (.getfield 194, 3) := by decide +kernel
theorem dX11_bringSpans_74 : decode cX11_bringSpans 74 = .ok (.invokevirtual 303, 3) := by decide +kernel
theorem dX11_bringSpans_77 : decode cX11_bringSpans 77 = .ok (.iconst 0, 1) := by decide +kernel
theorem dX11_bringSpans_78 : decode cX11_bringSpans 78 = .ok (.istore_n 1, 1) := by decide +kernel
theorem dX11_bringSpans_79 : decode cX11_bringSpans 79 = .ok (.iload_n 1, 1) := by decide +kernel
theorem dX11_bringSpans_80 : decode cX11_bringSpans 80 = .ok (.aload_n 0, 1) := by decide +kernel
theorem dX11_bringSpans_81 : decode cX11_bringSpans 81 = .ok (.getfield 10, 3) := by decide +kernel
theorem dX11_bringSpans_84 : decode cX11_bringSpans 84 = .ok (.getfield 142, 3) := by decide +kernel
theorem dX11_bringSpans_87 : decode cX11_bringSpans 87 = .ok (.if_icmp .ge 24, 3) := by decide +kernel
theorem dX11_bringSpans_111 : decode cX11_bringSpans 111 = .ok (.aload_n 0, 1) := by decide +kernel
theorem dX11_bringSpans_112 : decode cX11_bringSpans 112 = .ok (.getfield 75, 3) := by decide +kernel
theorem dX11_bringSpans_115 : decode cX11_bringSpans 115 = .ok (.invokevirtual 310, 3) := by decide +kernel
theorem dX11_bringSpans_118 : decode cX11_bringSpans 118 = .ok (.return_, 1) := by decide +kernel
set_option maxRecDepth 20000 in
theorem ggX11_bringSeats_X0_restart : GoodIn wsX11_bringSeats wsX0_restart := goodIn_r _ [6, 7, 8, 53, 54, 55, 56, 57, 58, 59, 60] (by decide +kernel) (by decide +kernel)
set_option maxRecDepth 20000 in
theorem gX11_bringSeats_X0_restart_n303 : GoodIn wsX11_bringSeats (wsX0_restart) := ggX11_bringSeats_X0_restart
set_option maxRecDepth 20000 in
theorem ggX11_bringSeats_X0_findFirst : GoodIn wsX11_bringSeats wsX0_findFirst := goodIn_r _ [15, 16, 7, 17, 18, 19, 20, 21, 22, 23, 24, 25, 26, 4, 27, 28, 29, 30, 31, 32, 8, 12, 33, 34, 35, 53, 54, 55, 56, 57, 58, 59, 60] (by decide +kernel) (by decide +kernel)
set_option maxRecDepth 20000 in
theorem gX11_bringSeats_X0_findFirst_n310 : GoodIn wsX11_bringSeats (wsX0_findFirst) := ggX11_bringSeats_X0_findFirst
set_option maxRecDepth 20000 in
theorem ggX11_bringSeats_X0_countWays : GoodIn wsX11_bringSeats wsX0_countWays := goodIn_r _ [38, 7, 16, 39, 18, 19, 20, 21, 22, 23, 24, 29, 30, 31, 4, 32, 8, 12, 33, 34, 35, 53, 54, 55, 56, 57, 58, 59, 60] (by decide +kernel) (by decide +kernel)
set_option maxRecDepth 20000 in
theorem gX11_bringSeats_X0_countWays_n314 : GoodIn wsX11_bringSeats (wsX0_countWays) := ggX11_bringSeats_X0_countWays
theorem dX11_bringSeats_0 : decode cX11_bringSeats 0 = .ok (.aload_n 0, 1) := by decide +kernel
theorem dX11_bringSeats_1 : decode cX11_bringSeats 1 = .ok (.getfield 79, 3) := by decide +kernel
theorem dX11_bringSeats_4 : decode cX11_bringSeats 4 = .ok (.getfield 294, 3) := by decide +kernel
theorem dX11_bringSeats_7 : decode cX11_bringSeats 7 = .ok (.aload_n 0, 1) := by decide +kernel
theorem dX11_bringSeats_8 : decode cX11_bringSeats 8 = .ok (.getfield 19, 3) := by decide +kernel
theorem dX11_bringSeats_11 : decode cX11_bringSeats 11 = .ok (.getfield 313, 3) := by decide +kernel
theorem dX11_bringSeats_14 : decode cX11_bringSeats 14 = .ok (.if_icmp .ne 4, 3) := by decide +kernel
theorem dX11_bringSeats_18 : decode cX11_bringSeats 18 = .ok (.aload_n 0, 1) := by decide +kernel
theorem dX11_bringSeats_19 : decode cX11_bringSeats 19 = .ok (.getfield 79, 3) := by decide +kernel
theorem dX11_bringSeats_22 : decode cX11_bringSeats 22 = .ok (.aload_n 0, 1) := by decide +kernel
theorem dX11_bringSeats_23 : decode cX11_bringSeats 23 = .ok (.getfield 19, 3) := by decide +kernel
theorem dX11_bringSeats_26 : decode cX11_bringSeats 26 = .ok (.getfield 313, 3) := by decide +kernel
theorem dX11_bringSeats_29 : decode cX11_bringSeats 29 = .ok (.putfield 294, 3) := by decide +kernel
theorem dX11_bringSeats_32 : decode cX11_bringSeats 32 = .ok (.aload_n 0, 1) := by decide +kernel
theorem dX11_bringSeats_33 : decode cX11_bringSeats 33 = .ok (.getfield 79, 3) := by decide +kernel
theorem dX11_bringSeats_36 : decode cX11_bringSeats 36 = .ok (.aload_n 0, 1) := by decide +kernel
theorem dX11_bringSeats_37 : decode cX11_bringSeats 37 = .ok (.getfield 19, 3) := by decide +kernel
theorem dX11_bringSeats_40 : decode cX11_bringSeats 40 = .ok (.getfield 133, 3) := by decide +kernel
theorem dX11_bringSeats_43 : decode cX11_bringSeats 43 = .ok (.invokevirtual 303, 3) := by decide +kernel
theorem dX11_bringSeats_46 : decode cX11_bringSeats 46 = .ok (.iconst 0, 1) := by decide +kernel
theorem dX11_bringSeats_47 : decode cX11_bringSeats 47 = .ok (.istore_n 1, 1) := by decide +kernel
theorem dX11_bringSeats_48 : decode cX11_bringSeats 48 = .ok (.iload_n 1, 1) := by decide +kernel
theorem dX11_bringSeats_49 : decode cX11_bringSeats 49 = .ok (.bipush 12, 2) := by decide +kernel
theorem dX11_bringSeats_51 : decode cX11_bringSeats 51 = .ok (.if_icmp .ge 38, 3) := by decide +kernel
theorem dX11_bringSeats_54 : decode cX11_bringSeats 54 = .ok (.aload_n 0, 1) := by decide +kernel
theorem dX11_bringSeats_55 : decode cX11_bringSeats 55 = .ok (.getfield 19, 3) := by decide +kernel
theorem dX11_bringSeats_58 : decode cX11_bringSeats 58 = .ok (.getfield 136, 3) := by decide +kernel
theorem dX11_bringSeats_61 : decode cX11_bringSeats 61 = .ok (.iload_n 1, 1) := by decide +kernel
theorem dX11_bringSeats_62 : decode cX11_bringSeats 62 = .ok (.iaload, 1) := by decide +kernel
theorem dX11_bringSeats_63 : decode cX11_bringSeats 63 = .ok (.iconst (-1), 1) := by decide +kernel
theorem dX11_bringSeats_64 : decode cX11_bringSeats 64 = .ok (.if_icmp .eq 19, 3) := by decide +kernel
theorem dX11_bringSeats_83 : decode cX11_bringSeats 83 = .ok (.iinc 1 1, 3) := by decide +kernel
theorem dX11_bringSeats_86 : decode cX11_bringSeats 86 = .ok (.goto (-38), 3) := by decide +kernel
theorem dX11_bringSeats_89 : decode cX11_bringSeats 89 = .ok (.aload_n 0, 1) := by decide +kernel
theorem dX11_bringSeats_90 : decode cX11_bringSeats 90 = .ok (.getfield 79, 3) := by decide +kernel
theorem dX11_bringSeats_93 : decode cX11_bringSeats 93 = .ok (.invokevirtual 310, 3) := by decide +kernel
theorem dX11_bringSeats_96 : decode cX11_bringSeats 96 = .ok (.aload_n 0, 1) := by decide +kernel
theorem dX11_bringSeats_97 : decode cX11_bringSeats 97 = .ok (.getfield 79, 3) := by decide +kernel
theorem dX11_bringSeats_100 : decode cX11_bringSeats 100 = .ok (.invokevirtual 314, 3) := by decide +kernel
theorem dX11_bringSeats_103 : decode cX11_bringSeats 103 = .ok (.return_, 1) := by decide +kernel
theorem dX11_in_0 : decode cX11_in 0 = .ok (.iload_n 0, 1) := by decide +kernel
theorem dX11_in_1 : decode cX11_in 1 = .ok (.iload_n 1, 1) := by decide +kernel
theorem dX11_in_2 : decode cX11_in 2 = .ok (.ishr, 1) := by decide +kernel
theorem dX11_in_3 : decode cX11_in 3 = .ok (.iconst 1, 1) := by decide +kernel
theorem dX11_in_4 : decode cX11_in 4 = .ok (.iand, 1) := by decide +kernel
theorem dX11_in_5 : decode cX11_in 5 = .ok (.ifCond .eq 7, 3) := by decide +kernel
theorem dX11_in_12 : decode cX11_in 12 = .ok (.iconst 0, 1) := by decide +kernel
theorem dX11_in_13 : decode cX11_in 13 = .ok (.ireturn, 1) := by decide +kernel
theorem dX12_init_0 : decode cX12_init 0 = .ok (.aload_n 0, 1) := by decide +kernel
theorem dX12_init_1 : decode cX12_init 1 = .ok (.invokespecial 1, 3) := by decide +kernel
theorem dX12_init_4 : decode cX12_init 4 = .ok (.aload_n 0, 1) := by decide +kernel
theorem dX12_init_5 : decode cX12_init 5 = .ok (.iconst 5, 1) := by decide +kernel
theorem dX12_init_6 : decode cX12_init 6 = .ok (.newarray .int, 2) := by decide +kernel
theorem dX12_init_8 : decode cX12_init 8 = .ok (.putfield 7, 3) := by decide +kernel
theorem dX12_init_11 : decode cX12_init 11 = .ok (.aload_n 0, 1) := by decide +kernel
theorem dX12_init_12 : decode cX12_init 12 = .ok (.bipush 12, 2) := by decide +kernel
theorem dX12_init_14 : decode cX12_init 14 = .ok (.newarray .int, 2) := by decide +kernel
theorem dX12_init_16 : decode cX12_init 16 = .ok (.putfield 13, 3) := by decide +kernel
theorem dX12_init_19 : decode cX12_init 19 = .ok (.aload_n 0, 1) := by decide +kernel
theorem dX12_init_20 : decode cX12_init 20 = .ok (.bipush 12, 2) := by decide +kernel
theorem dX12_init_22 : decode cX12_init 22 = .ok (.newarray .int, 2) := by decide +kernel
theorem dX12_init_24 : decode cX12_init 24 = .ok (.putfield 16, 3) := by decide +kernel
theorem dX12_init_27 : decode cX12_init 27 = .ok (.aload_n 0, 1) := by decide +kernel
theorem dX12_init_28 : decode cX12_init 28 = .ok (.bipush 12, 2) := by decide +kernel
theorem dX12_init_30 : decode cX12_init 30 = .ok (.newarray .int, 2) := by decide +kernel
theorem dX12_init_32 : decode cX12_init 32 = .ok (.putfield 19, 3) := by decide +kernel
theorem dX12_init_35 : decode cX12_init 35 = .ok (.aload_n 0, 1) := by decide +kernel
theorem dX12_init_36 : decode cX12_init 36 = .ok (.bipush 12, 2) := by decide +kernel
theorem dX12_init_38 : decode cX12_init 38 = .ok (.newarray .int, 2) := by decide +kernel
theorem dX12_init_40 : decode cX12_init 40 = .ok (.putfield 22, 3) := by decide +kernel
theorem dX12_init_43 : decode cX12_init 43 = .ok (.aload_n 0, 1) := by decide +kernel
theorem dX12_init_44 : decode cX12_init 44 = .ok (.bipush 12, 2) := by decide +kernel
theorem dX12_init_46 : decode cX12_init 46 = .ok (.newarray .int, 2) := by decide +kernel
theorem dX12_init_48 : decode cX12_init 48 = .ok (.putfield 25, 3) := by decide +kernel
theorem dX12_init_51 : decode cX12_init 51 = .ok (.aload_n 0, 1) := by decide +kernel
theorem dX12_init_52 : decode cX12_init 52 = .ok (.bipush (-9), 2) := by decide +kernel
theorem dX12_init_54 : decode cX12_init 54 = .ok (.putfield 28, 3) := by decide +kernel
theorem dX12_init_57 : decode cX12_init 57 = .ok (.aload_n 0, 1) := by decide +kernel
theorem dX12_init_58 : decode cX12_init 58 = .ok (.bipush 12, 2) := by decide +kernel
theorem dX12_init_60 : decode cX12_init 60 = .ok (.newarray .int, 2) := by decide +kernel
theorem dX12_init_62 : decode cX12_init 62 = .ok (.putfield 32, 3) := by decide +kernel
theorem dX12_init_65 : decode cX12_init 65 = .ok (.aload_n 0, 1) := by decide +kernel
theorem dX12_init_66 : decode cX12_init 66 = .ok (.bipush 12, 2) := by decide +kernel
theorem dX12_init_68 : decode cX12_init 68 = .ok (.newarray .int, 2) := by decide +kernel
theorem dX12_init_70 : decode cX12_init 70 = .ok (.putfield 35, 3) := by decide +kernel
theorem dX12_init_73 : decode cX12_init 73 = .ok (.aload_n 0, 1) := by decide +kernel
theorem dX12_init_74 : decode cX12_init 74 = .ok (.ldc 38, 2) := by decide +kernel
theorem dX12_init_76 : decode cX12_init 76 = .ok (.newarray .int, 2) := by decide +kernel
theorem dX12_init_78 : decode cX12_init 78 = .ok (.putfield 39, 3) := by decide +kernel
theorem dX12_init_81 : decode cX12_init 81 = .ok (.aload_n 0, 1) := by decide +kernel
theorem dX12_init_82 : decode cX12_init 82 = .ok (.sipush 4096, 3) := by decide +kernel
theorem dX12_init_85 : decode cX12_init 85 = .ok (.newarray .int, 2) := by decide +kernel
theorem dX12_init_87 : decode cX12_init 87 = .ok (.putfield 42, 3) := by decide +kernel
theorem dX12_init_90 : decode cX12_init 90 = .ok (.aload_n 0, 1) := by decide +kernel
theorem dX12_init_91 : decode cX12_init 91 = .ok (.bipush 100, 2) := by decide +kernel
theorem dX12_init_93 : decode cX12_init 93 = .ok (.newarray .int, 2) := by decide +kernel
theorem dX12_init_95 : decode cX12_init 95 = .ok (.putfield 45, 3) := by decide +kernel
