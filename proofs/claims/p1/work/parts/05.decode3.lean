theorem dX12_init_98 : decode cX12_init 98 = .ok (.aload_n 0, 1) := by decide +kernel
theorem dX12_init_99 : decode cX12_init 99 = .ok (.bipush 12, 2) := by decide +kernel
theorem dX12_init_101 : decode cX12_init 101 = .ok (.newarray .int, 2) := by decide +kernel
theorem dX12_init_103 : decode cX12_init 103 = .ok (.putfield 48, 3) := by decide +kernel
theorem dX12_init_106 : decode cX12_init 106 = .ok (.aload_n 0, 1) := by decide +kernel
theorem dX12_init_107 : decode cX12_init 107 = .ok (.bipush 100, 2) := by decide +kernel
theorem dX12_init_109 : decode cX12_init 109 = .ok (.newarray .int, 2) := by decide +kernel
theorem dX12_init_111 : decode cX12_init 111 = .ok (.putfield 51, 3) := by decide +kernel
theorem dX12_init_114 : decode cX12_init 114 = .ok (.aload_n 0, 1) := by decide +kernel
theorem dX12_init_115 : decode cX12_init 115 = .ok (.bipush 12, 2) := by decide +kernel
theorem dX12_init_117 : decode cX12_init 117 = .ok (.newarray .int, 2) := by decide +kernel
theorem dX12_init_119 : decode cX12_init 119 = .ok (.putfield 54, 3) := by decide +kernel
theorem dX12_init_122 : decode cX12_init 122 = .ok (.aload_n 0, 1) := by decide +kernel
theorem dX12_init_123 : decode cX12_init 123 = .ok (.ldc 38, 2) := by decide +kernel
theorem dX12_init_125 : decode cX12_init 125 = .ok (.newarray .boolean, 2) := by decide +kernel
theorem dX12_init_127 : decode cX12_init 127 = .ok (.putfield 57, 3) := by decide +kernel
theorem dX12_init_130 : decode cX12_init 130 = .ok (.aload_n 0, 1) := by decide +kernel
theorem dX12_init_131 : decode cX12_init 131 = .ok (.ldc 38, 2) := by decide +kernel
theorem dX12_init_133 : decode cX12_init 133 = .ok (.newarray .int, 2) := by decide +kernel
theorem dX12_init_135 : decode cX12_init 135 = .ok (.putfield 61, 3) := by decide +kernel
theorem dX12_init_138 : decode cX12_init 138 = .ok (.aload_n 0, 1) := by decide +kernel
theorem dX12_init_139 : decode cX12_init 139 = .ok (.bipush 12, 2) := by decide +kernel
theorem dX12_init_141 : decode cX12_init 141 = .ok (.newarray .int, 2) := by decide +kernel
theorem dX12_init_143 : decode cX12_init 143 = .ok (.putfield 64, 3) := by decide +kernel
theorem dX12_init_146 : decode cX12_init 146 = .ok (.aload_n 0, 1) := by decide +kernel
theorem dX12_init_147 : decode cX12_init 147 = .ok (.bipush 12, 2) := by decide +kernel
theorem dX12_init_149 : decode cX12_init 149 = .ok (.newarray .int, 2) := by decide +kernel
theorem dX12_init_151 : decode cX12_init 151 = .ok (.putfield 67, 3) := by decide +kernel
theorem dX12_init_154 : decode cX12_init 154 = .ok (.iconst 0, 1) := by decide +kernel
theorem dX12_init_155 : decode cX12_init 155 = .ok (.istore_n 1, 1) := by decide +kernel
theorem dX12_init_156 : decode cX12_init 156 = .ok (.iload_n 1, 1) := by decide +kernel
theorem dX12_init_157 : decode cX12_init 157 = .ok (.bipush 12, 2) := by decide +kernel
theorem dX12_init_159 : decode cX12_init 159 = .ok (.if_icmp .ge 17, 3) := by decide +kernel
theorem dX12_init_162 : decode cX12_init 162 = .ok (.aload_n 0, 1) := by decide +kernel
theorem dX12_init_163 : decode cX12_init 163 = .ok (.getfield 16, 3) := by decide +kernel
theorem dX12_init_166 : decode cX12_init 166 = .ok (.iload_n 1, 1) := by decide +kernel
theorem dX12_init_167 : decode cX12_init 167 = .ok (.bipush (-9), 2) := by decide +kernel
theorem dX12_init_169 : decode cX12_init 169 = .ok (.iastore, 1) := by decide +kernel
theorem dX12_init_170 : decode cX12_init 170 = .ok (.iinc 1 1, 3) := by decide +kernel
theorem dX12_init_173 : decode cX12_init 173 = .ok (.goto (-17), 3) := by decide +kernel
theorem dX12_init_176 : decode cX12_init 176 = .ok (.return_, 1) := by decide +kernel
theorem dX12_in_0 : decode cX12_in 0 = .ok (.iload_n 0, 1) := by decide +kernel
theorem dX12_in_1 : decode cX12_in 1 = .ok (.iload_n 1, 1) := by decide +kernel
theorem dX12_in_2 : decode cX12_in 2 = .ok (.if_icmp .lt 12, 3) := by decide +kernel
theorem dX12_in_5 : decode cX12_in 5 = .ok (.iload_n 0, 1) := by decide +kernel
theorem dX12_in_6 : decode cX12_in 6 = .ok (.iload_n 2, 1) := by decide +kernel
theorem dX12_in_7 : decode cX12_in 7 = .ok (.if_icmp .gt 7, 3) := by decide +kernel
theorem dX12_in_10 : decode cX12_in 10 = .ok (.iconst 1, 1) := by decide +kernel
theorem dX12_in_11 : decode cX12_in 11 = .ok (.goto 4, 3) := by decide +kernel
theorem dX12_in_14 : decode cX12_in 14 = .ok (.iconst 0, 1) := by decide +kernel
theorem dX12_in_15 : decode cX12_in 15 = .ok (.ireturn, 1) := by decide +kernel
theorem dX12_meets_0 : decode cX12_meets 0 = .ok (.aload_n 0, 1) := by decide +kernel
theorem dX12_meets_1 : decode cX12_meets 1 = .ok (.iload_n 1, 1) := by decide +kernel
theorem dX12_meets_2 : decode cX12_meets 2 = .ok (.putfield 70, 3) := by decide +kernel
theorem dX12_meets_5 : decode cX12_meets 5 = .ok (.aload_n 0, 1) := by decide +kernel
theorem dX12_meets_6 : decode cX12_meets 6 = .ok (.getfield 7, 3) := by decide +kernel
theorem dX12_meets_9 : decode cX12_meets 9 = .ok (.iload_n 1, 1) := by decide +kernel
theorem dX12_meets_10 : decode cX12_meets 10 = .ok (.dup2, 1) := by decide +kernel
theorem dX12_meets_11 : decode cX12_meets 11 = .ok (.iaload, 1) := by decide +kernel
theorem dX12_meets_12 : decode cX12_meets 12 = .ok (.iconst 1, 1) := by decide +kernel
theorem dX12_meets_13 : decode cX12_meets 13 = .ok (.iadd, 1) := by decide +kernel
theorem dX12_meets_14 : decode cX12_meets 14 = .ok (.iastore, 1) := by decide +kernel
theorem dX12_meets_15 : decode cX12_meets 15 = .ok (.bipush (-3), 2) := by decide +kernel
theorem dX12_meets_17 : decode cX12_meets 17 = .ok (.ireturn, 1) := by decide +kernel
theorem dX12_bits_0 : decode cX12_bits 0 = .ok (.iconst 0, 1) := by decide +kernel
theorem dX12_bits_1 : decode cX12_bits 1 = .ok (.istore_n 1, 1) := by decide +kernel
theorem dX12_bits_2 : decode cX12_bits 2 = .ok (.iconst 0, 1) := by decide +kernel
theorem dX12_bits_3 : decode cX12_bits 3 = .ok (.istore_n 2, 1) := by decide +kernel
theorem dX12_bits_4 : decode cX12_bits 4 = .ok (.iload_n 2, 1) := by decide +kernel
theorem dX12_bits_5 : decode cX12_bits 5 = .ok (.bipush 13, 2) := by decide +kernel
theorem dX12_bits_7 : decode cX12_bits 7 = .ok (.if_icmp .ge 17, 3) := by decide +kernel
theorem dX12_bits_10 : decode cX12_bits 10 = .ok (.iload_n 1, 1) := by decide +kernel
theorem dX12_bits_11 : decode cX12_bits 11 = .ok (.iload_n 0, 1) := by decide +kernel
theorem dX12_bits_12 : decode cX12_bits 12 = .ok (.iload_n 2, 1) := by decide +kernel
theorem dX12_bits_13 : decode cX12_bits 13 = .ok (.ishr, 1) := by decide +kernel
theorem dX12_bits_14 : decode cX12_bits 14 = .ok (.iconst 1, 1) := by decide +kernel
theorem dX12_bits_15 : decode cX12_bits 15 = .ok (.iand, 1) := by decide +kernel
theorem dX12_bits_16 : decode cX12_bits 16 = .ok (.iadd, 1) := by decide +kernel
theorem dX12_bits_17 : decode cX12_bits 17 = .ok (.istore_n 1, 1) := by decide +kernel
theorem dX12_bits_18 : decode cX12_bits 18 = .ok (.iinc 2 1, 3) := by decide +kernel
theorem dX12_bits_21 : decode cX12_bits 21 = .ok (.goto (-17), 3) := by decide +kernel
theorem dX12_bits_24 : decode cX12_bits 24 = .ok (.iload_n 1, 1) := by decide +kernel
theorem dX12_bits_25 : decode cX12_bits 25 = .ok (.ireturn, 1) := by decide +kernel
theorem dX12_all_0 : decode cX12_all 0 = .ok (.iconst 1, 1) := by decide +kernel
theorem dX12_all_1 : decode cX12_all 1 = .ok (.aload_n 0, 1) := by decide +kernel
theorem dX12_all_2 : decode cX12_all 2 = .ok (.getfield 73, 3) := by decide +kernel
theorem dX12_all_5 : decode cX12_all 5 = .ok (.ishl, 1) := by decide +kernel
theorem dX12_all_6 : decode cX12_all 6 = .ok (.iconst 1, 1) := by decide +kernel
theorem dX12_all_7 : decode cX12_all 7 = .ok (.isub, 1) := by decide +kernel
theorem dX12_all_8 : decode cX12_all 8 = .ok (.ireturn, 1) := by decide +kernel
set_option maxRecDepth 20000 in
theorem ggX12_isNode_X12_in : GoodIn wsX12_isNode wsX12_in := goodIn_r _ [5] (by decide +kernel) (by decide +kernel)
set_option maxRecDepth 20000 in
theorem gX12_isNode_X12_in : GoodIn wsX12_isNode (va_wsS RX12 76 yX12_in wsX12_in) := goodIn_app (goodIn_of _ (by decide +kernel)) ggX12_isNode_X12_in
theorem dX12_isNode_0 : decode cX12_isNode 0 = .ok (.iload_n 1, 1) := by decide +kernel
theorem dX12_isNode_1 : decode cX12_isNode 1 = .ok (.iconst 0, 1) := by decide +kernel
theorem dX12_isNode_2 : decode cX12_isNode 2 = .ok (.aload_n 0, 1) := by decide +kernel
theorem dX12_isNode_3 : decode cX12_isNode 3 = .ok (.getfield 73, 3) := by decide +kernel
theorem dX12_isNode_6 : decode cX12_isNode 6 = .ok (.iconst 1, 1) := by decide +kernel
theorem dX12_isNode_7 : decode cX12_isNode 7 = .ok (.isub, 1) := by decide +kernel
theorem dX12_isNode_8 : decode cX12_isNode 8 = .ok (.invokestatic 76, 3) := by decide +kernel
theorem dX12_isNode_11 : decode cX12_isNode 11 = .ok (.ireturn, 1) := by decide +kernel
theorem dX12_changed_0 : decode cX12_changed 0 = .ok (.aload_n 0, 1) := by decide +kernel
theorem dX12_changed_1 : decode cX12_changed 1 = .ok (.bipush (-9), 2) := by decide +kernel
theorem dX12_changed_3 : decode cX12_changed 3 = .ok (.putfield 28, 3) := by decide +kernel
theorem dX12_changed_6 : decode cX12_changed 6 = .ok (.return_, 1) := by decide +kernel
set_option maxRecDepth 20000 in
theorem ggX12_nodes_X12_in : GoodIn wsX12_nodes wsX12_in := goodIn_r _ [7] (by decide +kernel) (by decide +kernel)
set_option maxRecDepth 20000 in
theorem gX12_nodes_X12_in : GoodIn wsX12_nodes (va_wsS RX12 76 yX12_in wsX12_in) := goodIn_app (goodIn_of _ (by decide +kernel)) ggX12_nodes_X12_in
set_option maxRecDepth 20000 in
theorem ggX12_nodes_X12_changed : GoodIn wsX12_nodes wsX12_changed := goodIn_r _ [11, 12, 13, 14, 15, 16, 17, 18, 19, 20, 21, 22, 23, 24, 25, 26, 27, 28, 29, 30, 31, 32, 33, 34, 35, 36, 37, 38, 39, 40, 41] (by decide +kernel) (by decide +kernel)
set_option maxRecDepth 20000 in
theorem gX12_nodes_X12_changed : GoodIn wsX12_nodes (wsV RX12 83 RX12 yX12_changed wsX12_changed) := goodIn_app (goodIn_of _ (by decide +kernel)) ggX12_nodes_X12_changed
theorem dX12_nodes_0 : decode cX12_nodes 0 = .ok (.iload_n 1, 1) := by decide +kernel
theorem dX12_nodes_1 : decode cX12_nodes 1 = .ok (.iconst 0, 1) := by decide +kernel
theorem dX12_nodes_2 : decode cX12_nodes 2 = .ok (.bipush 12, 2) := by decide +kernel
theorem dX12_nodes_4 : decode cX12_nodes 4 = .ok (.invokestatic 76, 3) := by decide +kernel
theorem dX12_nodes_7 : decode cX12_nodes 7 = .ok (.ifCond .ne 5, 3) := by decide +kernel
theorem dX12_nodes_10 : decode cX12_nodes 10 = .ok (.iconst (-1), 1) := by decide +kernel
theorem dX12_nodes_11 : decode cX12_nodes 11 = .ok (.ireturn, 1) := by decide +kernel
theorem dX12_nodes_12 : decode cX12_nodes 12 = .ok (.aload_n 0, 1) := by decide +kernel
theorem dX12_nodes_13 : decode cX12_nodes 13 = .ok (.iload_n 1, 1) := by decide +kernel
theorem dX12_nodes_14 : decode cX12_nodes 14 = .ok (.putfield 73, 3) := by decide +kernel
theorem dX12_nodes_17 : decode cX12_nodes 17 = .ok (.iconst 0, 1) := by decide +kernel
theorem dX12_nodes_18 : decode cX12_nodes 18 = .ok (.istore_n 2, 1) := by decide +kernel
theorem dX12_nodes_19 : decode cX12_nodes 19 = .ok (.iload_n 2, 1) := by decide +kernel
theorem dX12_nodes_20 : decode cX12_nodes 20 = .ok (.bipush 12, 2) := by decide +kernel
theorem dX12_nodes_22 : decode cX12_nodes 22 = .ok (.if_icmp .ge 16, 3) := by decide +kernel
theorem dX12_nodes_25 : decode cX12_nodes 25 = .ok (.aload_n 0, 1) := by decide +kernel
theorem dX12_nodes_26 : decode cX12_nodes 26 = .ok (.getfield 13, 3) := by decide +kernel
theorem dX12_nodes_29 : decode cX12_nodes 29 = .ok (.iload_n 2, 1) := by decide +kernel
theorem dX12_nodes_30 : decode cX12_nodes 30 = .ok (.iconst 0, 1) := by decide +kernel
theorem dX12_nodes_31 : decode cX12_nodes 31 = .ok (.iastore, 1) := by decide +kernel
theorem dX12_nodes_32 : decode cX12_nodes 32 = .ok (.iinc 2 1, 3) := by decide +kernel
theorem dX12_nodes_35 : decode cX12_nodes 35 = .ok (.goto (-16), 3) := by decide +kernel
theorem dX12_nodes_38 : decode cX12_nodes 38 = .ok (.aload_n 0, 1) := by decide +kernel
theorem dX12_nodes_39 : decode cX12_nodes 39 = .ok (.iconst 0, 1) := by decide +kernel
theorem dX12_nodes_40 : decode cX12_nodes 40 = .ok (.putfield 80, 3) := by decide +kernel
theorem dX12_nodes_43 : decode cX12_nodes 43 = .ok (.aload_n 0, 1) := by decide +kernel
theorem dX12_nodes_44 : decode cX12_nodes 44 = .ok (.invokevirtual 83, 3) := by decide +kernel
theorem dX12_nodes_47 : decode cX12_nodes 47 = .ok (.aload_n 0, 1) := by decide +kernel
theorem dX12_nodes_48 : decode cX12_nodes 48 = .ok (.getfield 73, 3) := by decide +kernel
theorem dX12_nodes_51 : decode cX12_nodes 51 = .ok (.ireturn, 1) := by decide +kernel
set_option maxRecDepth 20000 in
theorem ggX12_join_X12_isNode : GoodIn wsX12_join wsX12_isNode := goodIn_r _ [6, 7, 8, 9, 5, 10, 23, 24, 25, 26, 27, 28, 29, 30, 31, 32, 33, 34, 35, 36, 37, 38, 39, 40, 41, 42, 43, 44, 45, 46, 47, 48, 49, 50, 51] (by decide +kernel) (by decide +kernel)
set_option maxRecDepth 20000 in
theorem gX12_join_X12_isNode : GoodIn wsX12_join (wsV RX12 86 RX12 yX12_isNode wsX12_isNode) := goodIn_app (goodIn_of _ (by decide +kernel)) ggX12_join_X12_isNode
theorem dX12_join_0 : decode cX12_join 0 = .ok (.aload_n 0, 1) := by decide +kernel
theorem dX12_join_1 : decode cX12_join 1 = .ok (.iload_n 1, 1) := by decide +kernel
theorem dX12_join_2 : decode cX12_join 2 = .ok (.invokevirtual 86, 3) := by decide +kernel
theorem dX12_join_5 : decode cX12_join 5 = .ok (.ifCond .eq 16, 3) := by decide +kernel
theorem dX12_join_21 : decode cX12_join 21 = .ok (.iconst (-1), 1) := by decide +kernel
theorem dX12_join_22 : decode cX12_join 22 = .ok (.ireturn, 1) := by decide +kernel
set_option maxRecDepth 20000 in
theorem ggX12_joined_X12_isNode : GoodIn wsX12_joined wsX12_isNode := goodIn_r _ [6, 7, 8, 9, 5, 10, 11, 12, 13, 14, 15, 16, 17, 18, 19, 20, 21, 22, 23, 24, 25, 26, 27, 28, 29, 30, 31, 32, 33, 34, 35, 36, 37, 38, 39] (by decide +kernel) (by decide +kernel)
set_option maxRecDepth 20000 in
theorem gX12_joined_X12_isNode : GoodIn wsX12_joined (wsV RX12 86 RX12 yX12_isNode wsX12_isNode) := goodIn_app (goodIn_of _ (by decide +kernel)) ggX12_joined_X12_isNode
theorem dX12_joined_0 : decode cX12_joined 0 = .ok (.aload_n 0, 1) := by decide +kernel
theorem dX12_joined_1 : decode cX12_joined 1 = .ok (.iload_n 1, 1) := by decide +kernel
theorem dX12_joined_2 : decode cX12_joined 2 = .ok (.invokevirtual 86, 3) := by decide +kernel
theorem dX12_joined_5 : decode cX12_joined 5 = .ok (.ifCond .eq 12, 3) := by decide +kernel
theorem dX12_joined_17 : decode cX12_joined 17 = .ok (.iconst (-1), 1) := by decide +kernel
theorem dX12_joined_18 : decode cX12_joined 18 = .ok (.ireturn, 1) := by decide +kernel
set_option maxRecDepth 20000 in
theorem ggX12_kind_X12_isNode : GoodIn wsX12_kind wsX12_isNode := goodIn_r _ [5, 6, 7, 8, 4, 9, 26, 27, 28, 29, 30, 31, 32, 33, 34, 35, 36, 37, 38, 39, 40, 41, 42, 43, 44, 45, 46, 47, 48, 49, 50, 51, 52, 53, 54] (by decide +kernel) (by decide +kernel)
set_option maxRecDepth 20000 in
theorem gX12_kind_X12_isNode : GoodIn wsX12_kind (wsV RX12 86 RX12 yX12_isNode wsX12_isNode) := goodIn_app (goodIn_of _ (by decide +kernel)) ggX12_kind_X12_isNode
theorem dX12_kind_0 : decode cX12_kind 0 = .ok (.aload_n 0, 1) := by decide +kernel
theorem dX12_kind_1 : decode cX12_kind 1 = .ok (.iload_n 1, 1) := by decide +kernel
theorem dX12_kind_2 : decode cX12_kind 2 = .ok (.invokevirtual 86, 3) := by decide +kernel
theorem dX12_kind_5 : decode cX12_kind 5 = .ok (.ifCond .eq 11, 3) := by decide +kernel
theorem dX12_kind_16 : decode cX12_kind 16 = .ok (.iconst (-1), 1) := by decide +kernel
theorem dX12_kind_17 : decode cX12_kind 17 = .ok (.ireturn, 1) := by decide +kernel
set_option maxRecDepth 20000 in
theorem ggX12_degree_X12_isNode : GoodIn wsX12_degree wsX12_isNode := goodIn_r _ [6, 7, 8, 9, 5, 10, 35, 36, 37, 38, 39, 40, 41, 42, 43, 44, 45, 46, 47, 48, 49, 50, 51, 52, 53, 54, 55, 56, 57, 58, 59, 60, 61, 62, 63] (by decide +kernel) (by decide +kernel)
set_option maxRecDepth 20000 in
theorem gX12_degree_X12_isNode : GoodIn wsX12_degree (wsV RX12 86 RX12 yX12_isNode wsX12_isNode) := goodIn_app (goodIn_of _ (by decide +kernel)) ggX12_degree_X12_isNode
theorem dX12_degree_0 : decode cX12_degree 0 = .ok (.aload_n 0, 1) := by decide +kernel
theorem dX12_degree_1 : decode cX12_degree 1 = .ok (.iload_n 1, 1) := by decide +kernel
theorem dX12_degree_2 : decode cX12_degree 2 = .ok (.invokevirtual 86, 3) := by decide +kernel
theorem dX12_degree_5 : decode cX12_degree 5 = .ok (.ifCond .eq 12, 3) := by decide +kernel
theorem dX12_degree_17 : decode cX12_degree 17 = .ok (.iconst (-1), 1) := by decide +kernel
theorem dX12_degree_18 : decode cX12_degree 18 = .ok (.ireturn, 1) := by decide +kernel
set_option maxRecDepth 20000 in
theorem ggX12_isSound_X12_all : GoodIn wsX12_isSound wsX12_all := goodIn_r _ [7, 1, 15, 16, 17, 18, 19, 20, 21, 22, 23, 24, 25, 26, 27, 28, 29, 30, 31, 32, 33, 34, 35, 36, 37, 38, 39, 40, 41, 42, 43] (by decide +kernel) (by decide +kernel)
set_option maxRecDepth 20000 in
theorem gX12_isSound_X12_all : GoodIn wsX12_isSound (wsV RX12 101 RX12 yX12_all wsX12_all) := goodIn_app (goodIn_of _ (by decide +kernel)) ggX12_isSound_X12_all
theorem dX12_isSound_0 : decode cX12_isSound 0 = .ok (.aload_n 0, 1) := by decide +kernel
theorem dX12_isSound_1 : decode cX12_isSound 1 = .ok (.invokevirtual 101, 3) := by decide +kernel
theorem dX12_isSound_4 : decode cX12_isSound 4 = .ok (.istore_n 1, 1) := by decide +kernel
theorem dX12_isSound_5 : decode cX12_isSound 5 = .ok (.iconst 1, 1) := by decide +kernel
theorem dX12_isSound_6 : decode cX12_isSound 6 = .ok (.istore_n 2, 1) := by decide +kernel
theorem dX12_isSound_7 : decode cX12_isSound 7 = .ok (.iload_n 2, 1) := by decide +kernel
theorem dX12_isSound_8 : decode cX12_isSound 8 = .ok (.ifCond .eq 57, 3) := by decide +kernel
theorem dX12_isSound_11 : decode cX12_isSound 11 = .ok (.iconst 0, 1) := by decide +kernel
theorem dX12_isSound_12 : decode cX12_isSound 12 = .ok (.istore_n 2, 1) := by decide +kernel
theorem dX12_isSound_13 : decode cX12_isSound 13 = .ok (.iconst 0, 1) := by decide +kernel
theorem dX12_isSound_14 : decode cX12_isSound 14 = .ok (.istore_n 3, 1) := by decide +kernel
theorem dX12_isSound_15 : decode cX12_isSound 15 = .ok (.iload_n 3, 1) := by decide +kernel
theorem dX12_isSound_16 : decode cX12_isSound 16 = .ok (.aload_n 0, 1) := by decide +kernel
theorem dX12_isSound_17 : decode cX12_isSound 17 = .ok (.getfield 73, 3) := by decide +kernel
theorem dX12_isSound_20 : decode cX12_isSound 20 = .ok (.if_icmp .ge 42, 3) := by decide +kernel
theorem dX12_isSound_62 : decode cX12_isSound 62 = .ok (.goto (-55), 3) := by decide +kernel
theorem dX12_isSound_65 : decode cX12_isSound 65 = .ok (.iload_n 1, 1) := by decide +kernel
theorem dX12_isSound_66 : decode cX12_isSound 66 = .ok (.ifCond .ne 7, 3) := by decide +kernel
theorem dX12_isSound_69 : decode cX12_isSound 69 = .ok (.iconst 1, 1) := by decide +kernel
theorem dX12_isSound_70 : decode cX12_isSound 70 = .ok (.goto 4, 3) := by decide +kernel
theorem dX12_isSound_74 : decode cX12_isSound 74 = .ok (.ireturn, 1) := by decide +kernel
set_option maxRecDepth 20000 in
theorem ggX12_sound_X12_isSound : GoodIn wsX12_sound wsX12_isSound := goodIn_r _ [5, 6, 7, 8, 9, 10, 4, 11, 12, 13, 14, 15, 16, 17, 18, 19, 20, 21, 22, 23, 24, 25, 26, 27, 28, 29, 30, 31, 32, 33, 34, 35, 36, 37, 38, 39, 40, 41, 42, 43, 44, 45, 46, 47] (by decide +kernel) (by decide +kernel)
set_option maxRecDepth 20000 in
theorem gX12_sound_X12_isSound : GoodIn wsX12_sound (wsV RX12 115 RX12 yX12_isSound wsX12_isSound) := goodIn_app (goodIn_of _ (by decide +kernel)) ggX12_sound_X12_isSound
theorem dX12_sound_0 : decode cX12_sound 0 = .ok (.aload_n 0, 1) := by decide +kernel
theorem dX12_sound_1 : decode cX12_sound 1 = .ok (.invokevirtual 115, 3) := by decide +kernel
theorem dX12_sound_4 : decode cX12_sound 4 = .ok (.ifCond .eq 7, 3) := by decide +kernel
theorem dX12_sound_7 : decode cX12_sound 7 = .ok (.iconst 1, 1) := by decide +kernel
theorem dX12_sound_8 : decode cX12_sound 8 = .ok (.goto 4, 3) := by decide +kernel
theorem dX12_sound_12 : decode cX12_sound 12 = .ok (.ireturn, 1) := by decide +kernel
theorem dX12_findHole_0 : decode cX12_findHole 0 = .ok (.aload_n 0, 1) := by decide +kernel
theorem dX12_findHole_1 : decode cX12_findHole 1 = .ok (.iconst 0, 1) := by decide +kernel
theorem dX12_findHole_2 : decode cX12_findHole 2 = .ok (.putfield 122, 3) := by decide +kernel
theorem dX12_findHole_5 : decode cX12_findHole 5 = .ok (.iconst 4, 1) := by decide +kernel
theorem dX12_findHole_6 : decode cX12_findHole 6 = .ok (.istore_n 1, 1) := by decide +kernel
theorem dX12_findHole_7 : decode cX12_findHole 7 = .ok (.iload_n 1, 1) := by decide +kernel
theorem dX12_findHole_8 : decode cX12_findHole 8 = .ok (.aload_n 0, 1) := by decide +kernel
theorem dX12_findHole_9 : decode cX12_findHole 9 = .ok (.getfield 73, 3) := by decide +kernel
theorem dX12_findHole_12 : decode cX12_findHole 12 = .ok (.if_icmp .gt 47, 3) := by decide +kernel
theorem dX12_findHole_59 : decode cX12_findHole 59 = .ok (.return_, 1) := by decide +kernel
set_option maxRecDepth 20000 in
theorem ggX12_hole_X12_findHole : GoodIn wsX12_hole wsX12_findHole := goodIn_r _ [7, 1, 8, 2, 9, 10, 11, 6, 12, 13, 14, 15, 16, 20, 21, 22, 23, 24, 25, 26, 27, 28, 29, 30, 31, 32, 33, 34, 35, 36, 37, 38, 39, 40, 41, 42, 43, 44, 45, 46, 47, 48] (by decide +kernel) (by decide +kernel)
set_option maxRecDepth 20000 in
theorem gX12_hole_X12_findHole : GoodIn wsX12_hole (wsV RX12 125 RX12 yX12_findHole wsX12_findHole) := goodIn_app (goodIn_of _ (by decide +kernel)) ggX12_hole_X12_findHole
set_option maxRecDepth 20000 in
theorem ggX12_hole_X12_in : GoodIn wsX12_hole wsX12_in := goodIn_r _ [19] (by decide +kernel) (by decide +kernel)
set_option maxRecDepth 20000 in
theorem gX12_hole_X12_in : GoodIn wsX12_hole (va_wsS RX12 76 yX12_in wsX12_in) := goodIn_app (goodIn_of _ (by decide +kernel)) ggX12_hole_X12_in
theorem dX12_hole_0 : decode cX12_hole 0 = .ok (.aload_n 0, 1) := by decide +kernel
theorem dX12_hole_1 : decode cX12_hole 1 = .ok (.invokevirtual 125, 3) := by decide +kernel
theorem dX12_hole_4 : decode cX12_hole 4 = .ok (.iload_n 1, 1) := by decide +kernel
theorem dX12_hole_5 : decode cX12_hole 5 = .ok (.iconst 0, 1) := by decide +kernel
theorem dX12_hole_6 : decode cX12_hole 6 = .ok (.aload_n 0, 1) := by decide +kernel
theorem dX12_hole_7 : decode cX12_hole 7 = .ok (.getfield 122, 3) := by decide +kernel
theorem dX12_hole_10 : decode cX12_hole 10 = .ok (.iconst 1, 1) := by decide +kernel
theorem dX12_hole_11 : decode cX12_hole 11 = .ok (.isub, 1) := by decide +kernel
theorem dX12_hole_12 : decode cX12_hole 12 = .ok (.invokestatic 76, 3) := by decide +kernel
theorem dX12_hole_15 : decode cX12_hole 15 = .ok (.ifCond .eq 12, 3) := by decide +kernel
theorem dX12_hole_27 : decode cX12_hole 27 = .ok (.bipush (-9), 2) := by decide +kernel
theorem dX12_hole_29 : decode cX12_hole 29 = .ok (.ireturn, 1) := by decide +kernel
set_option maxRecDepth 20000 in
theorem ggX12_fromTable_X12_changed : GoodIn wsX12_fromTable wsX12_changed := goodIn_r _ [17, 18, 19, 20, 21, 22, 23, 24, 25, 26, 27, 28, 29, 30, 31, 32, 33, 34, 35, 36, 37, 38, 39, 40, 41, 42, 43, 44, 45, 46, 47] (by decide +kernel) (by decide +kernel)
set_option maxRecDepth 20000 in
theorem gX12_fromTable_X12_changed : GoodIn wsX12_fromTable (wsV RX12 83 RX12 yX12_changed wsX12_changed) := goodIn_app (goodIn_of _ (by decide +kernel)) ggX12_fromTable_X12_changed
theorem dX12_fromTable_0 : decode cX12_fromTable 0 = .ok (.aload_n 0, 1) := by decide +kernel
theorem dX12_fromTable_1 : decode cX12_fromTable 1 = .ok (.aload_n 0, 1) := by decide +kernel
theorem dX12_fromTable_2 : decode cX12_fromTable 2 = .ok (.getfield 128, 3) := by decide +kernel
theorem dX12_fromTable_5 : decode cX12_fromTable 5 = .ok (.putfield 73, 3) := by decide +kernel
theorem dX12_fromTable_8 : decode cX12_fromTable 8 = .ok (.iconst 0, 1) := by decide +kernel
theorem dX12_fromTable_9 : decode cX12_fromTable 9 = .ok (.istore_n 1, 1) := by decide +kernel
theorem dX12_fromTable_10 : decode cX12_fromTable 10 = .ok (.iload_n 1, 1) := by decide +kernel
theorem dX12_fromTable_11 : decode cX12_fromTable 11 = .ok (.bipush 12, 2) := by decide +kernel
theorem dX12_fromTable_13 : decode cX12_fromTable 13 = .ok (.if_icmp .ge 16, 3) := by decide +kernel
theorem dX12_fromTable_16 : decode cX12_fromTable 16 = .ok (.aload_n 0, 1) := by decide +kernel
theorem dX12_fromTable_17 : decode cX12_fromTable 17 = .ok (.getfield 13, 3) := by decide +kernel
theorem dX12_fromTable_20 : decode cX12_fromTable 20 = .ok (.iload_n 1, 1) := by decide +kernel
theorem dX12_fromTable_21 : decode cX12_fromTable 21 = .ok (.iconst 0, 1) := by decide +kernel
theorem dX12_fromTable_22 : decode cX12_fromTable 22 = .ok (.iastore, 1) := by decide +kernel
theorem dX12_fromTable_23 : decode cX12_fromTable 23 = .ok (.iinc 1 1, 3) := by decide +kernel
theorem dX12_fromTable_26 : decode cX12_fromTable 26 = .ok (.goto (-16), 3) := by decide +kernel
theorem dX12_fromTable_29 : decode cX12_fromTable 29 = .ok (.iconst 0, 1) := by decide +kernel
theorem dX12_fromTable_30 : decode cX12_fromTable 30 = .ok (.istore_n 1, 1) := by decide +kernel
theorem dX12_fromTable_31 : decode cX12_fromTable 31 = .ok (.iload_n 1, 1) := by decide +kernel
theorem dX12_fromTable_32 : decode cX12_fromTable 32 = .ok (.bipush 12, 2) := by decide +kernel
theorem dX12_fromTable_34 : decode cX12_fromTable 34 = .ok (.if_icmp .ge 79, 3) := by decide +kernel
theorem dX12_fromTable_37 : decode cX12_fromTable 37 = .ok (.iconst 0, 1) := by decide +kernel
theorem dX12_fromTable_38 : decode cX12_fromTable 38 = .ok (.istore_n 2, 1) := by decide +kernel
theorem dX12_fromTable_39 : decode cX12_fromTable 39 = .ok (.iload_n 2, 1) := by decide +kernel
theorem dX12_fromTable_40 : decode cX12_fromTable 40 = .ok (.aload_n 0, 1) := by decide +kernel
theorem dX12_fromTable_41 : decode cX12_fromTable 41 = .ok (.getfield 73, 3) := by decide +kernel
theorem dX12_fromTable_44 : decode cX12_fromTable 44 = .ok (.if_icmp .ge 63, 3) := by decide +kernel
theorem dX12_fromTable_107 : decode cX12_fromTable 107 = .ok (.iinc 1 1, 3) := by decide +kernel
theorem dX12_fromTable_110 : decode cX12_fromTable 110 = .ok (.goto (-79), 3) := by decide +kernel
theorem dX12_fromTable_113 : decode cX12_fromTable 113 = .ok (.aload_n 0, 1) := by decide +kernel
theorem dX12_fromTable_114 : decode cX12_fromTable 114 = .ok (.iconst 0, 1) := by decide +kernel
theorem dX12_fromTable_115 : decode cX12_fromTable 115 = .ok (.putfield 80, 3) := by decide +kernel
theorem dX12_fromTable_118 : decode cX12_fromTable 118 = .ok (.aload_n 0, 1) := by decide +kernel
theorem dX12_fromTable_119 : decode cX12_fromTable 119 = .ok (.invokevirtual 83, 3) := by decide +kernel
theorem dX12_fromTable_122 : decode cX12_fromTable 122 = .ok (.aload_n 0, 1) := by decide +kernel
theorem dX12_fromTable_123 : decode cX12_fromTable 123 = .ok (.getfield 73, 3) := by decide +kernel
theorem dX12_fromTable_126 : decode cX12_fromTable 126 = .ok (.ireturn, 1) := by decide +kernel
theorem dX12_pairs_0 : decode cX12_pairs 0 = .ok (.iconst 0, 1) := by decide +kernel
theorem dX12_pairs_1 : decode cX12_pairs 1 = .ok (.istore_n 1, 1) := by decide +kernel
theorem dX12_pairs_2 : decode cX12_pairs 2 = .ok (.iconst 0, 1) := by decide +kernel
theorem dX12_pairs_3 : decode cX12_pairs 3 = .ok (.istore_n 2, 1) := by decide +kernel
theorem dX12_pairs_4 : decode cX12_pairs 4 = .ok (.iload_n 2, 1) := by decide +kernel
theorem dX12_pairs_5 : decode cX12_pairs 5 = .ok (.aload_n 0, 1) := by decide +kernel
theorem dX12_pairs_6 : decode cX12_pairs 6 = .ok (.getfield 73, 3) := by decide +kernel
theorem dX12_pairs_9 : decode cX12_pairs 9 = .ok (.if_icmp .ge 21, 3) := by decide +kernel
theorem dX12_pairs_30 : decode cX12_pairs 30 = .ok (.iload_n 1, 1) := by decide +kernel
theorem dX12_pairs_31 : decode cX12_pairs 31 = .ok (.iconst 2, 1) := by decide +kernel
theorem dX12_pairs_32 : decode cX12_pairs 32 = .ok (.idiv, 1) := by decide +kernel
theorem dX12_pairs_33 : decode cX12_pairs 33 = .ok (.ireturn, 1) := by decide +kernel
set_option maxRecDepth 20000 in
theorem ggX12_turn_X12_changed : GoodIn wsX12_turn wsX12_changed := goodIn_r _ [11, 12, 20, 21, 22, 23, 24, 25, 26, 27, 28, 29, 30, 31, 32, 33, 34, 35, 36, 37, 38, 39, 40, 41, 42, 43, 44, 45, 46, 47, 48] (by decide +kernel) (by decide +kernel)
set_option maxRecDepth 20000 in
theorem gX12_turn_X12_changed : GoodIn wsX12_turn (wsV RX12 83 RX12 yX12_changed wsX12_changed) := goodIn_app (goodIn_of _ (by decide +kernel)) ggX12_turn_X12_changed
set_option maxRecDepth 20000 in
theorem ggX12_turn_X12_pairs : GoodIn wsX12_turn wsX12_pairs := goodIn_r _ [16, 1, 2, 17, 18, 6, 19, 20, 21, 22, 23, 24, 25, 26, 27, 28, 29, 30, 31, 32, 33, 34, 35, 36, 37, 38, 39, 40, 41, 42, 43, 44, 45, 46, 47, 48] (by decide +kernel) (by decide +kernel)
set_option maxRecDepth 20000 in
theorem gX12_turn_X12_pairs : GoodIn wsX12_turn (wsV RX12 131 RX12 yX12_pairs wsX12_pairs) := goodIn_app (goodIn_of _ (by decide +kernel)) ggX12_turn_X12_pairs
theorem dX12_turn_0 : decode cX12_turn 0 = .ok (.iconst 0, 1) := by decide +kernel
theorem dX12_turn_1 : decode cX12_turn 1 = .ok (.istore_n 1, 1) := by decide +kernel
theorem dX12_turn_2 : decode cX12_turn 2 = .ok (.iload_n 1, 1) := by decide +kernel
theorem dX12_turn_3 : decode cX12_turn 3 = .ok (.aload_n 0, 1) := by decide +kernel
theorem dX12_turn_4 : decode cX12_turn 4 = .ok (.getfield 73, 3) := by decide +kernel
theorem dX12_turn_7 : decode cX12_turn 7 = .ok (.if_icmp .ge 34, 3) := by decide +kernel
theorem dX12_turn_41 : decode cX12_turn 41 = .ok (.aload_n 0, 1) := by decide +kernel
theorem dX12_turn_42 : decode cX12_turn 42 = .ok (.invokevirtual 83, 3) := by decide +kernel
theorem dX12_turn_45 : decode cX12_turn 45 = .ok (.aload_n 0, 1) := by decide +kernel
theorem dX12_turn_46 : decode cX12_turn 46 = .ok (.invokevirtual 131, 3) := by decide +kernel
theorem dX12_turn_49 : decode cX12_turn 49 = .ok (.ireturn, 1) := by decide +kernel
set_option maxRecDepth 20000 in
theorem ggX12_draft_X12_isNode : GoodIn wsX12_draft wsX12_isNode := goodIn_r _ [7, 8, 9, 10, 6, 11, 12, 13, 14, 15, 16, 17, 18, 19, 20, 21, 22, 23, 24, 25, 26, 27, 28, 29, 30, 31, 32, 33, 34, 35, 36, 37, 38, 39, 40] (by decide +kernel) (by decide +kernel)
set_option maxRecDepth 20000 in
theorem gX12_draft_X12_isNode : GoodIn wsX12_draft (wsV RX12 86 RX12 yX12_isNode wsX12_isNode) := goodIn_app (goodIn_of _ (by decide +kernel)) ggX12_draft_X12_isNode
theorem dX12_draft_0 : decode cX12_draft 0 = .ok (.iconst 0, 1) := by decide +kernel
theorem dX12_draft_1 : decode cX12_draft 1 = .ok (.istore_n 2, 1) := by decide +kernel
theorem dX12_draft_2 : decode cX12_draft 2 = .ok (.iconst 0, 1) := by decide +kernel
theorem dX12_draft_3 : decode cX12_draft 3 = .ok (.istore_n 3, 1) := by decide +kernel
theorem dX12_draft_4 : decode cX12_draft 4 = .ok (.iload_n 3, 1) := by decide +kernel
theorem dX12_draft_5 : decode cX12_draft 5 = .ok (.aload_n 0, 1) := by decide +kernel
theorem dX12_draft_6 : decode cX12_draft 6 = .ok (.getfield 80, 3) := by decide +kernel
theorem dX12_draft_9 : decode cX12_draft 9 = .ok (.if_icmp .ge 29, 3) := by decide +kernel
theorem dX12_draft_38 : decode cX12_draft 38 = .ok (.aload_n 0, 1) := by decide +kernel
theorem dX12_draft_39 : decode cX12_draft 39 = .ok (.iload_n 1, 1) := by decide +kernel
theorem dX12_draft_40 : decode cX12_draft 40 = .ok (.invokevirtual 86, 3) := by decide +kernel
theorem dX12_draft_43 : decode cX12_draft 43 = .ok (.ifCond .eq 7, 3) := by decide +kernel
theorem dX12_draft_50 : decode cX12_draft 50 = .ok (.iconst (-1), 1) := by decide +kernel
theorem dX12_draft_51 : decode cX12_draft 51 = .ok (.ireturn, 1) := by decide +kernel
theorem dX12_beginOrder_0 : decode cX12_beginOrder 0 = .ok (.aload_n 0, 1) := by decide +kernel
theorem dX12_beginOrder_1 : decode cX12_beginOrder 1 = .ok (.iconst 0, 1) := by decide +kernel
theorem dX12_beginOrder_2 : decode cX12_beginOrder 2 = .ok (.putfield 28, 3) := by decide +kernel
theorem dX12_beginOrder_5 : decode cX12_beginOrder 5 = .ok (.aload_n 0, 1) := by decide +kernel
theorem dX12_beginOrder_6 : decode cX12_beginOrder 6 = .ok (.iconst 0, 1) := by decide +kernel
theorem dX12_beginOrder_7 : decode cX12_beginOrder 7 = .ok (.putfield 134, 3) := by decide +kernel
theorem dX12_beginOrder_10 : decode cX12_beginOrder 10 = .ok (.aload_n 0, 1) := by decide +kernel
theorem dX12_beginOrder_11 : decode cX12_beginOrder 11 = .ok (.iconst 0, 1) := by decide +kernel
theorem dX12_beginOrder_12 : decode cX12_beginOrder 12 = .ok (.putfield 137, 3) := by decide +kernel
theorem dX12_beginOrder_15 : decode cX12_beginOrder 15 = .ok (.iconst 0, 1) := by decide +kernel
theorem dX12_beginOrder_16 : decode cX12_beginOrder 16 = .ok (.istore_n 1, 1) := by decide +kernel
theorem dX12_beginOrder_17 : decode cX12_beginOrder 17 = .ok (.iload_n 1, 1) := by decide +kernel
theorem dX12_beginOrder_18 : decode cX12_beginOrder 18 = .ok (.bipush 12, 2) := by decide +kernel
theorem dX12_beginOrder_20 : decode cX12_beginOrder 20 = .ok (.if_icmp .ge 28, 3) := by decide +kernel
theorem dX12_beginOrder_23 : decode cX12_beginOrder 23 = .ok (.aload_n 0, 1) := by decide +kernel
theorem dX12_beginOrder_24 : decode cX12_beginOrder 24 = .ok (.getfield 32, 3) := by decide +kernel
theorem dX12_beginOrder_27 : decode cX12_beginOrder 27 = .ok (.iload_n 1, 1) := by decide +kernel
theorem dX12_beginOrder_28 : decode cX12_beginOrder 28 = .ok (.aload_n 0, 1) := by decide +kernel
theorem dX12_beginOrder_29 : decode cX12_beginOrder 29 = .ok (.getfield 13, 3) := by decide +kernel
theorem dX12_beginOrder_32 : decode cX12_beginOrder 32 = .ok (.iload_n 1, 1) := by decide +kernel
theorem dX12_beginOrder_33 : decode cX12_beginOrder 33 = .ok (.iaload, 1) := by decide +kernel
theorem dX12_beginOrder_34 : decode cX12_beginOrder 34 = .ok (.iastore, 1) := by decide +kernel
theorem dX12_beginOrder_35 : decode cX12_beginOrder 35 = .ok (.aload_n 0, 1) := by decide +kernel
theorem dX12_beginOrder_36 : decode cX12_beginOrder 36 = .ok (.getfield 35, 3) := by decide +kernel
theorem dX12_beginOrder_39 : decode cX12_beginOrder 39 = .ok (.iload_n 1, 1) := by decide +kernel
theorem dX12_beginOrder_40 : decode cX12_beginOrder 40 = .ok (.iconst 0, 1) := by decide +kernel
theorem dX12_beginOrder_41 : decode cX12_beginOrder 41 = .ok (.iastore, 1) := by decide +kernel
theorem dX12_beginOrder_42 : decode cX12_beginOrder 42 = .ok (.iinc 1 1, 3) := by decide +kernel
theorem dX12_beginOrder_45 : decode cX12_beginOrder 45 = .ok (.goto (-28), 3) := by decide +kernel
theorem dX12_beginOrder_48 : decode cX12_beginOrder 48 = .ok (.return_, 1) := by decide +kernel
set_option maxRecDepth 20000 in
theorem ggX12_take_X12_beginOrder : GoodIn wsX12_take wsX12_beginOrder := goodIn_r _ [9, 10, 4, 11, 12, 13, 14, 30, 31, 32, 33, 34, 35, 36, 37, 38, 39, 40, 41, 42, 43, 44, 45, 46, 47, 48, 49, 50, 51, 52, 53, 54, 55, 56, 57, 58] (by decide +kernel) (by decide +kernel)
set_option maxRecDepth 20000 in
theorem gX12_take_X12_beginOrder : GoodIn wsX12_take (wsV RX12 143 RX12 yX12_beginOrder wsX12_beginOrder) := goodIn_app (goodIn_of _ (by decide +kernel)) ggX12_take_X12_beginOrder
theorem dX12_take_0 : decode cX12_take 0 = .ok (.aload_n 0, 1) := by decide +kernel
theorem dX12_take_1 : decode cX12_take 1 = .ok (.getfield 80, 3) := by decide +kernel
theorem dX12_take_4 : decode cX12_take 4 = .ok (.istore_n 1, 1) := by decide +kernel
theorem dX12_take_5 : decode cX12_take 5 = .ok (.aload_n 0, 1) := by decide +kernel
theorem dX12_take_6 : decode cX12_take 6 = .ok (.iconst 0, 1) := by decide +kernel
theorem dX12_take_7 : decode cX12_take 7 = .ok (.putfield 80, 3) := by decide +kernel
theorem dX12_take_10 : decode cX12_take 10 = .ok (.iload_n 1, 1) := by decide +kernel
theorem dX12_take_11 : decode cX12_take 11 = .ok (.aload_n 0, 1) := by decide +kernel
theorem dX12_take_12 : decode cX12_take 12 = .ok (.getfield 73, 3) := by decide +kernel
theorem dX12_take_15 : decode cX12_take 15 = .ok (.if_icmp .ge 6, 3) := by decide +kernel
theorem dX12_take_21 : decode cX12_take 21 = .ok (.aload_n 0, 1) := by decide +kernel
theorem dX12_take_22 : decode cX12_take 22 = .ok (.invokevirtual 143, 3) := by decide +kernel
theorem dX12_take_25 : decode cX12_take 25 = .ok (.iconst 0, 1) := by decide +kernel
theorem dX12_take_26 : decode cX12_take 26 = .ok (.istore_n 2, 1) := by decide +kernel
theorem dX12_take_27 : decode cX12_take 27 = .ok (.iload_n 2, 1) := by decide +kernel
theorem dX12_take_28 : decode cX12_take 28 = .ok (.aload_n 0, 1) := by decide +kernel
theorem dX12_take_29 : decode cX12_take 29 = .ok (.getfield 73, 3) := by decide +kernel
theorem dX12_take_32 : decode cX12_take 32 = .ok (.if_icmp .ge 19, 3) := by decide +kernel
theorem dX12_take_51 : decode cX12_take 51 = .ok (.aload_n 0, 1) := by decide +kernel
theorem dX12_take_52 : decode cX12_take 52 = .ok (.getfield 134, 3) := by decide +kernel
theorem dX12_take_55 : decode cX12_take 55 = .ok (.ireturn, 1) := by decide +kernel
set_option maxRecDepth 20000 in
theorem ggX12_rule_X12_in : GoodIn wsX12_rule wsX12_in := goodIn_r _ [6] (by decide +kernel) (by decide +kernel)
set_option maxRecDepth 20000 in
theorem gX12_rule_X12_in : GoodIn wsX12_rule (va_wsS RX12 76 yX12_in wsX12_in) := goodIn_app (goodIn_of _ (by decide +kernel)) ggX12_rule_X12_in
set_option maxRecDepth 20000 in
theorem ggX12_rule_X12_beginOrder : GoodIn wsX12_rule wsX12_beginOrder := goodIn_r _ [10, 11, 2, 12, 13, 14, 15, 39, 40, 41, 42, 43, 44, 45, 46, 47, 48, 49, 50, 51, 52, 53, 54, 55, 56, 57, 58, 59, 60, 61, 62, 63, 64, 65, 66, 67] (by decide +kernel) (by decide +kernel)
set_option maxRecDepth 20000 in
theorem gX12_rule_X12_beginOrder : GoodIn wsX12_rule (wsV RX12 143 RX12 yX12_beginOrder wsX12_beginOrder) := goodIn_app (goodIn_of _ (by decide +kernel)) ggX12_rule_X12_beginOrder
set_option maxRecDepth 20000 in
theorem ggX12_rule_X12_all : GoodIn wsX12_rule wsX12_all := goodIn_r _ [19, 1, 39, 40, 41, 42, 43, 44, 45, 46, 47, 48, 49, 50, 51, 52, 53, 54, 55, 56, 57, 58, 59, 60, 61, 62, 63, 64, 65, 66, 67] (by decide +kernel) (by decide +kernel)
set_option maxRecDepth 20000 in
theorem gX12_rule_X12_all : GoodIn wsX12_rule (wsV RX12 101 RX12 yX12_all wsX12_all) := goodIn_app (goodIn_of _ (by decide +kernel)) ggX12_rule_X12_all
theorem dX12_rule_0 : decode cX12_rule 0 = .ok (.iload_n 1, 1) := by decide +kernel
theorem dX12_rule_1 : decode cX12_rule 1 = .ok (.iconst 0, 1) := by decide +kernel
theorem dX12_rule_2 : decode cX12_rule 2 = .ok (.iconst 2, 1) := by decide +kernel
theorem dX12_rule_3 : decode cX12_rule 3 = .ok (.invokestatic 76, 3) := by decide +kernel
theorem dX12_rule_6 : decode cX12_rule 6 = .ok (.ifCond .ne 5, 3) := by decide +kernel
theorem dX12_rule_9 : decode cX12_rule 9 = .ok (.iconst (-1), 1) := by decide +kernel
theorem dX12_rule_10 : decode cX12_rule 10 = .ok (.ireturn, 1) := by decide +kernel
theorem dX12_rule_11 : decode cX12_rule 11 = .ok (.aload_n 0, 1) := by decide +kernel
theorem dX12_rule_12 : decode cX12_rule 12 = .ok (.invokevirtual 143, 3) := by decide +kernel
theorem dX12_rule_15 : decode cX12_rule 15 = .ok (.aload_n 0, 1) := by decide +kernel
theorem dX12_rule_16 : decode cX12_rule 16 = .ok (.invokevirtual 101, 3) := by decide +kernel
theorem dX12_rule_19 : decode cX12_rule 19 = .ok (.istore_n 2, 1) := by decide +kernel
theorem dX12_rule_20 : decode cX12_rule 20 = .ok (.iload_n 2, 1) := by decide +kernel
theorem dX12_rule_21 : decode cX12_rule 21 = .ok (.ifCond .eq 72, 3) := by decide +kernel
theorem dX12_rule_93 : decode cX12_rule 93 = .ok (.aload_n 0, 1) := by decide +kernel
theorem dX12_rule_94 : decode cX12_rule 94 = .ok (.getfield 134, 3) := by decide +kernel
theorem dX12_rule_97 : decode cX12_rule 97 = .ok (.ireturn, 1) := by decide +kernel
set_option maxRecDepth 20000 in
theorem ggX12_setThen_X12_all : GoodIn wsX12_setThen wsX12_all := goodIn_r _ [8, 3, 12, 13, 14, 15, 16, 17, 18, 19, 20, 21, 22, 23, 24, 25, 26, 27, 28, 29, 30, 31, 32, 33, 34, 35, 36, 37, 38, 39, 40] (by decide +kernel) (by decide +kernel)
set_option maxRecDepth 20000 in
theorem gX12_setThen_X12_all : GoodIn wsX12_setThen (wsV RX12 101 RX12 yX12_all wsX12_all) := goodIn_app (goodIn_of _ (by decide +kernel)) ggX12_setThen_X12_all
theorem dX12_setThen_0 : decode cX12_setThen 0 = .ok (.iconst 0, 1) := by decide +kernel
theorem dX12_setThen_1 : decode cX12_setThen 1 = .ok (.istore_n 1, 1) := by decide +kernel
theorem dX12_setThen_2 : decode cX12_setThen 2 = .ok (.iload_n 1, 1) := by decide +kernel
theorem dX12_setThen_3 : decode cX12_setThen 3 = .ok (.bipush 12, 2) := by decide +kernel
theorem dX12_setThen_5 : decode cX12_setThen 5 = .ok (.if_icmp .ge 21, 3) := by decide +kernel
theorem dX12_setThen_8 : decode cX12_setThen 8 = .ok (.aload_n 0, 1) := by decide +kernel
theorem dX12_setThen_9 : decode cX12_setThen 9 = .ok (.getfield 39, 3) := by decide +kernel
theorem dX12_setThen_12 : decode cX12_setThen 12 = .ok (.iload_n 1, 1) := by decide +kernel
theorem dX12_setThen_13 : decode cX12_setThen 13 = .ok (.aload_n 0, 1) := by decide +kernel
theorem dX12_setThen_14 : decode cX12_setThen 14 = .ok (.getfield 13, 3) := by decide +kernel
theorem dX12_setThen_17 : decode cX12_setThen 17 = .ok (.iload_n 1, 1) := by decide +kernel
theorem dX12_setThen_18 : decode cX12_setThen 18 = .ok (.iaload, 1) := by decide +kernel
theorem dX12_setThen_19 : decode cX12_setThen 19 = .ok (.iastore, 1) := by decide +kernel
theorem dX12_setThen_20 : decode cX12_setThen 20 = .ok (.iinc 1 1, 3) := by decide +kernel
theorem dX12_setThen_23 : decode cX12_setThen 23 = .ok (.goto (-21), 3) := by decide +kernel
theorem dX12_setThen_26 : decode cX12_setThen 26 = .ok (.iconst 1, 1) := by decide +kernel
theorem dX12_setThen_27 : decode cX12_setThen 27 = .ok (.istore_n 1, 1) := by decide +kernel
theorem dX12_setThen_28 : decode cX12_setThen 28 = .ok (.iload_n 1, 1) := by decide +kernel
theorem dX12_setThen_29 : decode cX12_setThen 29 = .ok (.aload_n 0, 1) := by decide +kernel
theorem dX12_setThen_30 : decode cX12_setThen 30 = .ok (.invokevirtual 101, 3) := by decide +kernel
theorem dX12_setThen_33 : decode cX12_setThen 33 = .ok (.if_icmp .gt 123, 3) := by decide +kernel
theorem dX12_setThen_156 : decode cX12_setThen 156 = .ok (.return_, 1) := by decide +kernel
set_option maxRecDepth 20000 in
theorem ggX12_least_X12_in : GoodIn wsX12_least wsX12_in := goodIn_r _ [6] (by decide +kernel) (by decide +kernel)
set_option maxRecDepth 20000 in
theorem gX12_least_X12_in : GoodIn wsX12_least (va_wsS RX12 76 yX12_in wsX12_in) := goodIn_app (goodIn_of _ (by decide +kernel)) ggX12_least_X12_in
set_option maxRecDepth 20000 in
theorem ggX12_least_X12_setThen : GoodIn wsX12_least wsX12_setThen := goodIn_r _ [10, 11, 12, 2, 13, 14, 15, 5, 16, 17, 18, 19, 49, 50, 51, 52, 53, 54, 55, 56, 57, 58, 59, 60, 61, 62, 63, 64, 65, 66, 67, 68, 69, 70, 71, 72, 73, 74, 75, 76, 77] (by decide +kernel) (by decide +kernel)
set_option maxRecDepth 20000 in
theorem gX12_least_X12_setThen : GoodIn wsX12_least (wsV RX12 158 RX12 yX12_setThen wsX12_setThen) := goodIn_app (goodIn_of _ (by decide +kernel)) ggX12_least_X12_setThen
set_option maxRecDepth 20000 in
theorem ggX12_least_X12_all : GoodIn wsX12_least wsX12_all := goodIn_r _ [16, 2, 49, 50, 51, 52, 53, 54, 55, 56, 57, 58, 59, 60, 61, 62, 63, 64, 65, 66, 67, 68, 69, 70, 71, 72, 73, 74, 75, 76, 77] (by decide +kernel) (by decide +kernel)
set_option maxRecDepth 20000 in
theorem gX12_least_X12_all : GoodIn wsX12_least (wsV RX12 101 RX12 yX12_all wsX12_all) := goodIn_app (goodIn_of _ (by decide +kernel)) ggX12_least_X12_all
set_option maxRecDepth 20000 in
theorem ggX12_least_X12_beginOrder : GoodIn wsX12_least wsX12_beginOrder := goodIn_r _ [34, 35, 36, 37, 38, 12, 39, 49, 50, 51, 52, 53, 54, 55, 56, 57, 58, 59, 60, 61, 62, 63, 64, 65, 66, 67, 68, 69, 70, 71, 72, 73, 74, 75, 76, 77] (by decide +kernel) (by decide +kernel)
set_option maxRecDepth 20000 in
theorem gX12_least_X12_beginOrder : GoodIn wsX12_least (wsV RX12 143 RX12 yX12_beginOrder wsX12_beginOrder) := goodIn_app (goodIn_of _ (by decide +kernel)) ggX12_least_X12_beginOrder
theorem dX12_least_0 : decode cX12_least 0 = .ok (.iload_n 1, 1) := by decide +kernel
theorem dX12_least_1 : decode cX12_least 1 = .ok (.iconst 0, 1) := by decide +kernel
theorem dX12_least_2 : decode cX12_least 2 = .ok (.iconst 1, 1) := by decide +kernel
theorem dX12_least_3 : decode cX12_least 3 = .ok (.invokestatic 76, 3) := by decide +kernel
theorem dX12_least_6 : decode cX12_least 6 = .ok (.ifCond .ne 5, 3) := by decide +kernel
theorem dX12_least_9 : decode cX12_least 9 = .ok (.iconst (-1), 1) := by decide +kernel
theorem dX12_least_10 : decode cX12_least 10 = .ok (.ireturn, 1) := by decide +kernel
theorem dX12_least_11 : decode cX12_least 11 = .ok (.aload_n 0, 1) := by decide +kernel
theorem dX12_least_12 : decode cX12_least 12 = .ok (.invokevirtual 158, 3) := by decide +kernel
theorem dX12_least_15 : decode cX12_least 15 = .ok (.aload_n 0, 1) := by decide +kernel
theorem dX12_least_16 : decode cX12_least 16 = .ok (.getfield 42, 3) := by decide +kernel
theorem dX12_least_19 : decode cX12_least 19 = .ok (.aload_n 0, 1) := by decide +kernel
theorem dX12_least_20 : decode cX12_least 20 = .ok (.invokevirtual 101, 3) := by decide +kernel
theorem dX12_least_23 : decode cX12_least 23 = .ok (.iconst 0, 1) := by decide +kernel
theorem dX12_least_24 : decode cX12_least 24 = .ok (.iastore, 1) := by decide +kernel
theorem dX12_least_25 : decode cX12_least 25 = .ok (.aload_n 0, 1) := by decide +kernel
theorem dX12_least_26 : decode cX12_least 26 = .ok (.invokevirtual 101, 3) := by decide +kernel
theorem dX12_least_29 : decode cX12_least 29 = .ok (.iconst 1, 1) := by decide +kernel
theorem dX12_least_30 : decode cX12_least 30 = .ok (.isub, 1) := by decide +kernel
theorem dX12_least_31 : decode cX12_least 31 = .ok (.istore_n 2, 1) := by decide +kernel
theorem dX12_least_32 : decode cX12_least 32 = .ok (.iload_n 2, 1) := by decide +kernel
theorem dX12_least_33 : decode cX12_least 33 = .ok (.ifCond .lt 79, 3) := by decide +kernel
theorem dX12_least_112 : decode cX12_least 112 = .ok (.aload_n 0, 1) := by decide +kernel
theorem dX12_least_113 : decode cX12_least 113 = .ok (.getfield 42, 3) := by decide +kernel
theorem dX12_least_116 : decode cX12_least 116 = .ok (.iconst 0, 1) := by decide +kernel
theorem dX12_least_117 : decode cX12_least 117 = .ok (.iaload, 1) := by decide +kernel
theorem dX12_least_118 : decode cX12_least 118 = .ok (.istore_n 2, 1) := by decide +kernel
theorem dX12_least_119 : decode cX12_least 119 = .ok (.aload_n 0, 1) := by decide +kernel
theorem dX12_least_120 : decode cX12_least 120 = .ok (.invokevirtual 143, 3) := by decide +kernel
theorem dX12_least_123 : decode cX12_least 123 = .ok (.iconst 0, 1) := by decide +kernel
theorem dX12_least_124 : decode cX12_least 124 = .ok (.istore_n 3, 1) := by decide +kernel
theorem dX12_least_125 : decode cX12_least 125 = .ok (.iload_n 3, 1) := by decide +kernel
theorem dX12_least_126 : decode cX12_least 126 = .ok (.aload_n 0, 1) := by decide +kernel
theorem dX12_least_127 : decode cX12_least 127 = .ok (.invokevirtual 101, 3) := by decide +kernel
theorem dX12_least_130 : decode cX12_least 130 = .ok (.if_icmp .eq 73, 3) := by decide +kernel
theorem dX12_least_203 : decode cX12_least 203 = .ok (.iload_n 2, 1) := by decide +kernel
theorem dX12_least_204 : decode cX12_least 204 = .ok (.ireturn, 1) := by decide +kernel
set_option maxRecDepth 20000 in
theorem ggX12_order_X12_in : GoodIn wsX12_order wsX12_in := goodIn_r _ [6] (by decide +kernel) (by decide +kernel)
set_option maxRecDepth 20000 in
theorem gX12_order_X12_in : GoodIn wsX12_order (va_wsS RX12 76 yX12_in wsX12_in) := goodIn_app (goodIn_of _ (by decide +kernel)) ggX12_order_X12_in
theorem dX12_order_0 : decode cX12_order 0 = .ok (.iload_n 1, 1) := by decide +kernel
theorem dX12_order_1 : decode cX12_order 1 = .ok (.iconst 0, 1) := by decide +kernel
theorem dX12_order_2 : decode cX12_order 2 = .ok (.aload_n 0, 1) := by decide +kernel
theorem dX12_order_3 : decode cX12_order 3 = .ok (.getfield 28, 3) := by decide +kernel
theorem dX12_order_6 : decode cX12_order 6 = .ok (.iconst 1, 1) := by decide +kernel
theorem dX12_order_7 : decode cX12_order 7 = .ok (.isub, 1) := by decide +kernel
theorem dX12_order_8 : decode cX12_order 8 = .ok (.invokestatic 76, 3) := by decide +kernel
theorem dX12_order_11 : decode cX12_order 11 = .ok (.ifCond .eq 12, 3) := by decide +kernel
theorem dX12_order_23 : decode cX12_order 23 = .ok (.bipush (-9), 2) := by decide +kernel
theorem dX12_order_25 : decode cX12_order 25 = .ok (.ireturn, 1) := by decide +kernel
set_option maxRecDepth 20000 in
theorem ggX12_about_X12_in : GoodIn wsX12_about wsX12_in := goodIn_r _ [7] (by decide +kernel) (by decide +kernel)
set_option maxRecDepth 20000 in
theorem gX12_about_X12_in : GoodIn wsX12_about (va_wsS RX12 76 yX12_in wsX12_in) := goodIn_app (goodIn_of _ (by decide +kernel)) ggX12_about_X12_in
theorem dX12_about_0 : decode cX12_about 0 = .ok (.iload_n 1, 1) := by decide +kernel
theorem dX12_about_1 : decode cX12_about 1 = .ok (.iconst 0, 1) := by decide +kernel
theorem dX12_about_2 : decode cX12_about 2 = .ok (.iconst 2, 1) := by decide +kernel
theorem dX12_about_3 : decode cX12_about 3 = .ok (.invokestatic 76, 3) := by decide +kernel
theorem dX12_about_6 : decode cX12_about 6 = .ok (.ifCond .ne 5, 3) := by decide +kernel
theorem dX12_about_9 : decode cX12_about 9 = .ok (.iconst (-1), 1) := by decide +kernel
theorem dX12_about_10 : decode cX12_about 10 = .ok (.ireturn, 1) := by decide +kernel
theorem dX12_about_11 : decode cX12_about 11 = .ok (.aload_n 0, 1) := by decide +kernel
theorem dX12_about_12 : decode cX12_about 12 = .ok (.getfield 28, 3) := by decide +kernel
theorem dX12_about_15 : decode cX12_about 15 = .ok (.ifCond .ge 6, 3) := by decide +kernel
theorem dX12_about_18 : decode cX12_about 18 = .ok (.bipush (-9), 2) := by decide +kernel
theorem dX12_about_20 : decode cX12_about 20 = .ok (.ireturn, 1) := by decide +kernel
theorem dX12_fill_0 : decode cX12_fill 0 = .ok (.aload_n 0, 1) := by decide +kernel
theorem dX12_fill_1 : decode cX12_fill 1 = .ok (.getfield 28, 3) := by decide +kernel
theorem dX12_fill_4 : decode cX12_fill 4 = .ok (.ifCond .ge 6, 3) := by decide +kernel
theorem dX12_fill_7 : decode cX12_fill 7 = .ok (.bipush (-9), 2) := by decide +kernel
theorem dX12_fill_9 : decode cX12_fill 9 = .ok (.ireturn, 1) := by decide +kernel
set_option maxRecDepth 20000 in
theorem ggX12_setCliques_X12_all : GoodIn wsX12_setCliques wsX12_all := goodIn_r _ [7, 8, 21, 22, 23, 24, 25, 26, 27, 28, 29, 30, 31, 32, 33, 34, 35, 36, 37, 38, 39, 40, 41, 42, 43, 44, 45, 46, 47, 48, 49] (by decide +kernel) (by decide +kernel)
set_option maxRecDepth 20000 in
theorem gX12_setCliques_X12_all : GoodIn wsX12_setCliques (wsV RX12 101 RX12 yX12_all wsX12_all) := goodIn_app (goodIn_of _ (by decide +kernel)) ggX12_setCliques_X12_all
theorem dX12_setCliques_0 : decode cX12_setCliques 0 = .ok (.aload_n 0, 1) := by decide +kernel
theorem dX12_setCliques_1 : decode cX12_setCliques 1 = .ok (.iconst 0, 1) := by decide +kernel
theorem dX12_setCliques_2 : decode cX12_setCliques 2 = .ok (.putfield 164, 3) := by decide +kernel
theorem dX12_setCliques_5 : decode cX12_setCliques 5 = .ok (.iconst 1, 1) := by decide +kernel
theorem dX12_setCliques_6 : decode cX12_setCliques 6 = .ok (.istore_n 1, 1) := by decide +kernel
theorem dX12_setCliques_7 : decode cX12_setCliques 7 = .ok (.iload_n 1, 1) := by decide +kernel
theorem dX12_setCliques_8 : decode cX12_setCliques 8 = .ok (.aload_n 0, 1) := by decide +kernel
theorem dX12_setCliques_9 : decode cX12_setCliques 9 = .ok (.invokevirtual 101, 3) := by decide +kernel
theorem dX12_setCliques_12 : decode cX12_setCliques 12 = .ok (.if_icmp .gt 37, 3) := by decide +kernel
theorem dX12_setCliques_49 : decode cX12_setCliques 49 = .ok (.return_, 1) := by decide +kernel
set_option maxRecDepth 20000 in
theorem ggX12_clique_X12_setCliques : GoodIn wsX12_clique wsX12_setCliques := goodIn_r _ [7, 1, 2, 8, 9, 10, 6, 11, 12, 13, 14, 15, 16, 17, 18, 19, 20, 21, 22, 23, 24, 28, 29, 30, 31, 32, 33, 34, 35, 36, 37, 38, 39, 40, 41, 42, 43, 44, 45, 46, 47, 48, 49, 50, 51, 52, 53, 54, 55, 56] (by decide +kernel) (by decide +kernel)
set_option maxRecDepth 20000 in
theorem gX12_clique_X12_setCliques : GoodIn wsX12_clique (wsV RX12 170 RX12 yX12_setCliques wsX12_setCliques) := goodIn_app (goodIn_of _ (by decide +kernel)) ggX12_clique_X12_setCliques
set_option maxRecDepth 20000 in
theorem ggX12_clique_X12_in : GoodIn wsX12_clique wsX12_in := goodIn_r _ [27] (by decide +kernel) (by decide +kernel)
set_option maxRecDepth 20000 in
theorem gX12_clique_X12_in : GoodIn wsX12_clique (va_wsS RX12 76 yX12_in wsX12_in) := goodIn_app (goodIn_of _ (by decide +kernel)) ggX12_clique_X12_in
theorem dX12_clique_0 : decode cX12_clique 0 = .ok (.aload_n 0, 1) := by decide +kernel
theorem dX12_clique_1 : decode cX12_clique 1 = .ok (.invokevirtual 170, 3) := by decide +kernel
theorem dX12_clique_4 : decode cX12_clique 4 = .ok (.iload_n 1, 1) := by decide +kernel
theorem dX12_clique_5 : decode cX12_clique 5 = .ok (.iconst (-1), 1) := by decide +kernel
theorem dX12_clique_6 : decode cX12_clique 6 = .ok (.if_icmp .ne 10, 3) := by decide +kernel
theorem dX12_clique_9 : decode cX12_clique 9 = .ok (.aload_n 0, 1) := by decide +kernel
theorem dX12_clique_10 : decode cX12_clique 10 = .ok (.getfield 164, 3) := by decide +kernel
theorem dX12_clique_13 : decode cX12_clique 13 = .ok (.goto 28, 3) := by decide +kernel
theorem dX12_clique_16 : decode cX12_clique 16 = .ok (.iload_n 1, 1) := by decide +kernel
theorem dX12_clique_17 : decode cX12_clique 17 = .ok (.iconst 0, 1) := by decide +kernel
theorem dX12_clique_18 : decode cX12_clique 18 = .ok (.aload_n 0, 1) := by decide +kernel
theorem dX12_clique_19 : decode cX12_clique 19 = .ok (.getfield 164, 3) := by decide +kernel
theorem dX12_clique_22 : decode cX12_clique 22 = .ok (.iconst 1, 1) := by decide +kernel
theorem dX12_clique_23 : decode cX12_clique 23 = .ok (.isub, 1) := by decide +kernel
theorem dX12_clique_24 : decode cX12_clique 24 = .ok (.invokestatic 76, 3) := by decide +kernel
theorem dX12_clique_27 : decode cX12_clique 27 = .ok (.ifCond .eq 12, 3) := by decide +kernel
theorem dX12_clique_39 : decode cX12_clique 39 = .ok (.bipush (-9), 2) := by decide +kernel
theorem dX12_clique_41 : decode cX12_clique 41 = .ok (.ireturn, 1) := by decide +kernel
set_option maxRecDepth 20000 in
theorem ggX12_greatest_X12_setCliques : GoodIn wsX12_greatest wsX12_setCliques := goodIn_r _ [7, 1, 2, 8, 9, 10, 6, 11, 12, 13, 14, 15, 16, 17, 18, 19, 20, 21, 22, 23, 24, 28, 29, 30, 31, 32, 33, 34, 35, 36, 37, 38, 39, 40, 41, 42, 43, 44, 45, 46, 47, 48, 49, 50, 51, 52, 53, 54, 55, 56] (by decide +kernel) (by decide +kernel)
set_option maxRecDepth 20000 in
theorem gX12_greatest_X12_setCliques : GoodIn wsX12_greatest (wsV RX12 170 RX12 yX12_setCliques wsX12_setCliques) := goodIn_app (goodIn_of _ (by decide +kernel)) ggX12_greatest_X12_setCliques
theorem dX12_greatest_0 : decode cX12_greatest 0 = .ok (.aload_n 0, 1) := by decide +kernel
theorem dX12_greatest_1 : decode cX12_greatest 1 = .ok (.invokevirtual 170, 3) := by decide +kernel
theorem dX12_greatest_4 : decode cX12_greatest 4 = .ok (.iconst 0, 1) := by decide +kernel
theorem dX12_greatest_5 : decode cX12_greatest 5 = .ok (.istore_n 1, 1) := by decide +kernel
theorem dX12_greatest_6 : decode cX12_greatest 6 = .ok (.iconst 0, 1) := by decide +kernel
theorem dX12_greatest_7 : decode cX12_greatest 7 = .ok (.istore_n 2, 1) := by decide +kernel
theorem dX12_greatest_8 : decode cX12_greatest 8 = .ok (.iload_n 2, 1) := by decide +kernel
theorem dX12_greatest_9 : decode cX12_greatest 9 = .ok (.aload_n 0, 1) := by decide +kernel
theorem dX12_greatest_10 : decode cX12_greatest 10 = .ok (.getfield 164, 3) := by decide +kernel
theorem dX12_greatest_13 : decode cX12_greatest 13 = .ok (.if_icmp .ge 36, 3) := by decide +kernel
theorem dX12_greatest_49 : decode cX12_greatest 49 = .ok (.iload_n 1, 1) := by decide +kernel
theorem dX12_greatest_50 : decode cX12_greatest 50 = .ok (.ireturn, 1) := by decide +kernel
set_option maxRecDepth 20000 in
theorem ggX12_sort_X12_all : GoodIn wsX12_sort wsX12_all := goodIn_r _ [5, 6, 22, 23, 24, 25, 26, 27, 28, 29, 30, 31, 32, 33, 34, 35, 36, 37, 38, 39, 40, 41, 42, 43, 44, 45, 46, 47, 48, 49, 50] (by decide +kernel) (by decide +kernel)
set_option maxRecDepth 20000 in
theorem gX12_sort_X12_all : GoodIn wsX12_sort (wsV RX12 101 RX12 yX12_all wsX12_all) := goodIn_app (goodIn_of _ (by decide +kernel)) ggX12_sort_X12_all
theorem dX12_sort_0 : decode cX12_sort 0 = .ok (.iload_n 1, 1) := by decide +kernel
theorem dX12_sort_1 : decode cX12_sort 1 = .ok (.ifCond .le 14, 3) := by decide +kernel
theorem dX12_sort_4 : decode cX12_sort 4 = .ok (.iload_n 1, 1) := by decide +kernel
theorem dX12_sort_5 : decode cX12_sort 5 = .ok (.aload_n 0, 1) := by decide +kernel
theorem dX12_sort_6 : decode cX12_sort 6 = .ok (.invokevirtual 101, 3) := by decide +kernel
theorem dX12_sort_9 : decode cX12_sort 9 = .ok (.iconst (-1), 1) := by decide +kernel
theorem dX12_sort_10 : decode cX12_sort 10 = .ok (.ixor, 1) := by decide +kernel
theorem dX12_sort_11 : decode cX12_sort 11 = .ok (.iand, 1) := by decide +kernel
theorem dX12_sort_12 : decode cX12_sort 12 = .ok (.ifCond .eq 5, 3) := by decide +kernel
theorem dX12_sort_15 : decode cX12_sort 15 = .ok (.iconst (-1), 1) := by decide +kernel
theorem dX12_sort_16 : decode cX12_sort 16 = .ok (.ireturn, 1) := by decide +kernel
theorem dX12_isColoured_0 : decode cX12_isColoured 0 = .ok (.iload_n 1, 1) := by decide +kernel
theorem dX12_isColoured_1 : decode cX12_isColoured 1 = .ok (.aload_n 0, 1) := by decide +kernel
theorem dX12_isColoured_2 : decode cX12_isColoured 2 = .ok (.getfield 73, 3) := by decide +kernel
theorem dX12_isColoured_5 : decode cX12_isColoured 5 = .ok (.if_icmp .ne 5, 3) := by decide +kernel
theorem dX12_isColoured_8 : decode cX12_isColoured 8 = .ok (.iconst 1, 1) := by decide +kernel
theorem dX12_isColoured_9 : decode cX12_isColoured 9 = .ok (.ireturn, 1) := by decide +kernel
set_option maxRecDepth 20000 in
theorem ggX12_colour_X12_isNode : GoodIn wsX12_colour wsX12_isNode := goodIn_r _ [6, 7, 8, 9, 5, 10, 19, 20, 21, 22, 23, 24, 25, 26, 27, 28, 29, 30, 31, 32, 33, 34, 35, 36, 37, 38, 39, 40, 41, 42, 43, 44, 45, 46, 47] (by decide +kernel) (by decide +kernel)
set_option maxRecDepth 20000 in
theorem gX12_colour_X12_isNode : GoodIn wsX12_colour (wsV RX12 86 RX12 yX12_isNode wsX12_isNode) := goodIn_app (goodIn_of _ (by decide +kernel)) ggX12_colour_X12_isNode
set_option maxRecDepth 20000 in
theorem ggX12_colour_X12_isColoured : GoodIn wsX12_colour wsX12_isColoured := goodIn_r _ [14, 7, 15, 1, 16, 17, 5, 18, 11, 12, 13, 19, 20, 21, 22, 23, 24, 25, 26, 27, 28, 29, 30, 31, 32, 33, 34, 35, 36, 37, 38, 39, 40, 41, 42, 43, 44, 45, 46, 47] (by decide +kernel) (by decide +kernel)
set_option maxRecDepth 20000 in
theorem gX12_colour_X12_isColoured : GoodIn wsX12_colour (wsV RX12 176 RX12 yX12_isColoured wsX12_isColoured) := goodIn_app (goodIn_of _ (by decide +kernel)) ggX12_colour_X12_isColoured
theorem dX12_colour_0 : decode cX12_colour 0 = .ok (.iload_n 1, 1) := by decide +kernel
theorem dX12_colour_1 : decode cX12_colour 1 = .ok (.iconst (-1), 1) := by decide +kernel
theorem dX12_colour_2 : decode cX12_colour 2 = .ok (.if_icmp .eq 13, 3) := by decide +kernel
theorem dX12_colour_5 : decode cX12_colour 5 = .ok (.aload_n 0, 1) := by decide +kernel
theorem dX12_colour_6 : decode cX12_colour 6 = .ok (.iload_n 1, 1) := by decide +kernel
theorem dX12_colour_7 : decode cX12_colour 7 = .ok (.invokevirtual 86, 3) := by decide +kernel
theorem dX12_colour_10 : decode cX12_colour 10 = .ok (.ifCond .ne 5, 3) := by decide +kernel
theorem dX12_colour_13 : decode cX12_colour 13 = .ok (.iconst (-1), 1) := by decide +kernel
theorem dX12_colour_14 : decode cX12_colour 14 = .ok (.ireturn, 1) := by decide +kernel
theorem dX12_colour_15 : decode cX12_colour 15 = .ok (.iconst 0, 1) := by decide +kernel
theorem dX12_colour_16 : decode cX12_colour 16 = .ok (.istore_n 2, 1) := by decide +kernel
theorem dX12_colour_17 : decode cX12_colour 17 = .ok (.aload_n 0, 1) := by decide +kernel
theorem dX12_colour_18 : decode cX12_colour 18 = .ok (.iconst 0, 1) := by decide +kernel
theorem dX12_colour_19 : decode cX12_colour 19 = .ok (.iload_n 2, 1) := by decide +kernel
theorem dX12_colour_20 : decode cX12_colour 20 = .ok (.invokevirtual 176, 3) := by decide +kernel
theorem dX12_colour_23 : decode cX12_colour 23 = .ok (.ifCond .ne 9, 3) := by decide +kernel
theorem dX12_colour_32 : decode cX12_colour 32 = .ok (.iload_n 1, 1) := by decide +kernel
theorem dX12_colour_33 : decode cX12_colour 33 = .ok (.iconst (-1), 1) := by decide +kernel
theorem dX12_colour_34 : decode cX12_colour 34 = .ok (.if_icmp .ne 7, 3) := by decide +kernel
theorem dX12_colour_37 : decode cX12_colour 37 = .ok (.iload_n 2, 1) := by decide +kernel
theorem dX12_colour_38 : decode cX12_colour 38 = .ok (.goto 9, 3) := by decide +kernel
theorem dX12_colour_47 : decode cX12_colour 47 = .ok (.ireturn, 1) := by decide +kernel
set_option maxRecDepth 20000 in
theorem ggX12_apart_X12_all : GoodIn wsX12_apart wsX12_all := goodIn_r _ [5, 6, 18, 19, 20, 21, 22, 23, 24, 25, 26, 27, 28, 29, 30, 31, 32, 33, 34, 35, 36, 37, 38, 39, 40, 41, 42, 43, 44, 45, 46] (by decide +kernel) (by decide +kernel)
set_option maxRecDepth 20000 in
theorem gX12_apart_X12_all : GoodIn wsX12_apart (wsV RX12 101 RX12 yX12_all wsX12_all) := goodIn_app (goodIn_of _ (by decide +kernel)) ggX12_apart_X12_all
set_option maxRecDepth 20000 in
theorem ggX12_apart_X12_bits : GoodIn wsX12_apart wsX12_bits := goodIn_r _ [9] (by decide +kernel) (by decide +kernel)
set_option maxRecDepth 20000 in
theorem gX12_apart_X12_bits : GoodIn wsX12_apart (va_wsS RX12 109 yX12_bits wsX12_bits) := goodIn_app (goodIn_of _ (by decide +kernel)) ggX12_apart_X12_bits
theorem dX12_apart_0 : decode cX12_apart 0 = .ok (.iconst 0, 1) := by decide +kernel
theorem dX12_apart_1 : decode cX12_apart 1 = .ok (.istore_n 1, 1) := by decide +kernel
theorem dX12_apart_2 : decode cX12_apart 2 = .ok (.iconst 0, 1) := by decide +kernel
theorem dX12_apart_3 : decode cX12_apart 3 = .ok (.istore_n 2, 1) := by decide +kernel
theorem dX12_apart_4 : decode cX12_apart 4 = .ok (.iload_n 2, 1) := by decide +kernel
theorem dX12_apart_5 : decode cX12_apart 5 = .ok (.aload_n 0, 1) := by decide +kernel
theorem dX12_apart_6 : decode cX12_apart 6 = .ok (.invokevirtual 101, 3) := by decide +kernel
theorem dX12_apart_9 : decode cX12_apart 9 = .ok (.if_icmp .gt 34, 3) := by decide +kernel
theorem dX12_apart_12 : decode cX12_apart 12 = .ok (.iload_n 2, 1) := by decide +kernel
theorem dX12_apart_13 : decode cX12_apart 13 = .ok (.invokestatic 109, 3) := by decide +kernel
theorem dX12_apart_16 : decode cX12_apart 16 = .ok (.iload_n 1, 1) := by decide +kernel
theorem dX12_apart_17 : decode cX12_apart 17 = .ok (.invokestatic 109, 3) := by decide +kernel
theorem dX12_apart_20 : decode cX12_apart 20 = .ok (.if_icmp .le 15, 3) := by decide +kernel
theorem dX12_apart_35 : decode cX12_apart 35 = .ok (.iload_n 1, 1) := by decide +kernel
theorem dX12_apart_36 : decode cX12_apart 36 = .ok (.istore_n 1, 1) := by decide +kernel
theorem dX12_apart_37 : decode cX12_apart 37 = .ok (.iinc 2 1, 3) := by decide +kernel
theorem dX12_apart_40 : decode cX12_apart 40 = .ok (.goto (-36), 3) := by decide +kernel
theorem dX12_apart_43 : decode cX12_apart 43 = .ok (.iload_n 1, 1) := by decide +kernel
theorem dX12_apart_44 : decode cX12_apart 44 = .ok (.ireturn, 1) := by decide +kernel
set_option maxRecDepth 20000 in
theorem ggX12_tree_X12_setCliques : GoodIn wsX12_tree wsX12_setCliques := goodIn_r _ [8, 1, 3, 9, 10, 11, 7, 12, 13, 14, 15, 16, 17, 18, 19, 20, 21, 22, 23, 24, 25, 40, 41, 42, 43, 44, 45, 46, 47, 48, 49, 50, 51, 52, 53, 54, 55, 56, 57, 58, 59, 60, 61, 62, 63, 64, 65, 66, 67, 68] (by decide +kernel) (by decide +kernel)
set_option maxRecDepth 20000 in
theorem gX12_tree_X12_setCliques : GoodIn wsX12_tree (wsV RX12 170 RX12 yX12_setCliques wsX12_setCliques) := goodIn_app (goodIn_of _ (by decide +kernel)) ggX12_tree_X12_setCliques
set_option maxRecDepth 20000 in
theorem ggX12_tree_X12_in : GoodIn wsX12_tree wsX12_in := goodIn_r _ [28] (by decide +kernel) (by decide +kernel)
set_option maxRecDepth 20000 in
theorem gX12_tree_X12_in : GoodIn wsX12_tree (va_wsS RX12 76 yX12_in wsX12_in) := goodIn_app (goodIn_of _ (by decide +kernel)) ggX12_tree_X12_in
theorem dX12_tree_0 : decode cX12_tree 0 = .ok (.aload_n 0, 1) := by decide +kernel
theorem dX12_tree_1 : decode cX12_tree 1 = .ok (.invokevirtual 170, 3) := by decide +kernel
theorem dX12_tree_4 : decode cX12_tree 4 = .ok (.iload_n 1, 1) := by decide +kernel
theorem dX12_tree_5 : decode cX12_tree 5 = .ok (.iconst 0, 1) := by decide +kernel
theorem dX12_tree_6 : decode cX12_tree 6 = .ok (.aload_n 0, 1) := by decide +kernel
theorem dX12_tree_7 : decode cX12_tree 7 = .ok (.getfield 164, 3) := by decide +kernel
theorem dX12_tree_10 : decode cX12_tree 10 = .ok (.iconst 1, 1) := by decide +kernel
theorem dX12_tree_11 : decode cX12_tree 11 = .ok (.isub, 1) := by decide +kernel
theorem dX12_tree_12 : decode cX12_tree 12 = .ok (.invokestatic 76, 3) := by decide +kernel
theorem dX12_tree_15 : decode cX12_tree 15 = .ok (.ifCond .eq 12, 3) := by decide +kernel
theorem dX12_tree_27 : decode cX12_tree 27 = .ok (.iconst (-1), 1) := by decide +kernel
theorem dX12_tree_28 : decode cX12_tree 28 = .ok (.ireturn, 1) := by decide +kernel
set_option maxRecDepth 20000 in
theorem ggX12_part_X12_isNode : GoodIn wsX12_part wsX12_isNode := goodIn_r _ [6, 7, 8, 9, 5, 10, 30, 31, 32, 33, 34, 35, 36, 37, 38, 39, 40, 41, 42, 43, 44, 45, 46, 47, 48, 49, 50, 51, 52, 53, 54, 55, 56, 57, 58] (by decide +kernel) (by decide +kernel)
set_option maxRecDepth 20000 in
theorem gX12_part_X12_isNode : GoodIn wsX12_part (wsV RX12 86 RX12 yX12_isNode wsX12_isNode) := goodIn_app (goodIn_of _ (by decide +kernel)) ggX12_part_X12_isNode
theorem dX12_part_0 : decode cX12_part 0 = .ok (.aload_n 0, 1) := by decide +kernel
theorem dX12_part_1 : decode cX12_part 1 = .ok (.iload_n 1, 1) := by decide +kernel
theorem dX12_part_2 : decode cX12_part 2 = .ok (.invokevirtual 86, 3) := by decide +kernel
theorem dX12_part_5 : decode cX12_part 5 = .ok (.ifCond .eq 16, 3) := by decide +kernel
theorem dX12_part_21 : decode cX12_part 21 = .ok (.iconst (-1), 1) := by decide +kernel
theorem dX12_part_22 : decode cX12_part 22 = .ok (.ireturn, 1) := by decide +kernel
theorem dX12_setLine_0 : decode cX12_setLine 0 = .ok (.iconst 1, 1) := by decide +kernel
theorem dX12_setLine_1 : decode cX12_setLine 1 = .ok (.aload_n 0, 1) := by decide +kernel
theorem dX12_setLine_2 : decode cX12_setLine 2 = .ok (.getfield 191, 3) := by decide +kernel
theorem dX12_setLine_5 : decode cX12_setLine 5 = .ok (.ishl, 1) := by decide +kernel
theorem dX12_setLine_6 : decode cX12_setLine 6 = .ok (.iconst 1, 1) := by decide +kernel
theorem dX12_setLine_7 : decode cX12_setLine 7 = .ok (.isub, 1) := by decide +kernel
theorem dX12_setLine_8 : decode cX12_setLine 8 = .ok (.istore_n 1, 1) := by decide +kernel
theorem dX12_setLine_9 : decode cX12_setLine 9 = .ok (.iload_n 1, 1) := by decide +kernel
theorem dX12_setLine_10 : decode cX12_setLine 10 = .ok (.istore_n 2, 1) := by decide +kernel
theorem dX12_setLine_11 : decode cX12_setLine 11 = .ok (.iload_n 2, 1) := by decide +kernel
theorem dX12_setLine_12 : decode cX12_setLine 12 = .ok (.ifCond .le 155, 3) := by decide +kernel
theorem dX12_setLine_167 : decode cX12_setLine 167 = .ok (.aload_n 0, 1) := by decide +kernel
theorem dX12_setLine_168 : decode cX12_setLine 168 = .ok (.iconst 0, 1) := by decide +kernel
theorem dX12_setLine_169 : decode cX12_setLine 169 = .ok (.putfield 197, 3) := by decide +kernel
theorem dX12_setLine_172 : decode cX12_setLine 172 = .ok (.iconst 0, 1) := by decide +kernel
theorem dX12_setLine_173 : decode cX12_setLine 173 = .ok (.istore_n 2, 1) := by decide +kernel
theorem dX12_setLine_174 : decode cX12_setLine 174 = .ok (.aload_n 0, 1) := by decide +kernel
theorem dX12_setLine_175 : decode cX12_setLine 175 = .ok (.getfield 191, 3) := by decide +kernel
theorem dX12_setLine_178 : decode cX12_setLine 178 = .ok (.ifCond .le 7, 3) := by decide +kernel
theorem dX12_setLine_185 : decode cX12_setLine 185 = .ok (.iconst 0, 1) := by decide +kernel
theorem dX12_setLine_186 : decode cX12_setLine 186 = .ok (.istore_n 3, 1) := by decide +kernel
theorem dX12_setLine_187 : decode cX12_setLine 187 = .ok (.iload_n 3, 1) := by decide +kernel
theorem dX12_setLine_188 : decode cX12_setLine 188 = .ok (.ifCond .eq 89, 3) := by decide +kernel
theorem dX12_setLine_277 : decode cX12_setLine 277 = .ok (.return_, 1) := by decide +kernel
theorem dX12_lines_0 : decode cX12_lines 0 = .ok (.aload_n 0, 1) := by decide +kernel
theorem dX12_lines_1 : decode cX12_lines 1 = .ok (.getfield 191, 3) := by decide +kernel
theorem dX12_lines_4 : decode cX12_lines 4 = .ok (.ifCond .ne 7, 3) := by decide +kernel
theorem dX12_lines_7 : decode cX12_lines 7 = .ok (.iconst 1, 1) := by decide +kernel
theorem dX12_lines_8 : decode cX12_lines 8 = .ok (.goto 4, 3) := by decide +kernel
theorem dX12_lines_12 : decode cX12_lines 12 = .ok (.istore_n 1, 1) := by decide +kernel
theorem dX12_lines_13 : decode cX12_lines 13 = .ok (.iconst 0, 1) := by decide +kernel
theorem dX12_lines_14 : decode cX12_lines 14 = .ok (.istore_n 2, 1) := by decide +kernel
theorem dX12_lines_15 : decode cX12_lines 15 = .ok (.iload_n 2, 1) := by decide +kernel
theorem dX12_lines_16 : decode cX12_lines 16 = .ok (.aload_n 0, 1) := by decide +kernel
theorem dX12_lines_17 : decode cX12_lines 17 = .ok (.getfield 191, 3) := by decide +kernel
theorem dX12_lines_20 : decode cX12_lines 20 = .ok (.if_icmp .ge 25, 3) := by decide +kernel
theorem dX12_lines_45 : decode cX12_lines 45 = .ok (.iload_n 1, 1) := by decide +kernel
theorem dX12_lines_46 : decode cX12_lines 46 = .ok (.ireturn, 1) := by decide +kernel
set_option maxRecDepth 20000 in
theorem ggX12_hasSpans_X12_setCliques : GoodIn wsX12_hasSpans wsX12_setCliques := goodIn_r _ [10, 3, 5, 11, 12, 13, 9, 14, 15, 16, 17, 18, 19, 20, 21, 22, 23, 24, 25, 26, 27, 43, 44, 45, 46, 47, 48, 49, 50, 51, 52, 53, 54, 55, 56, 57, 58, 59, 60, 61, 62, 63, 64, 65, 66, 67, 68, 69, 70, 71] (by decide +kernel) (by decide +kernel)
set_option maxRecDepth 20000 in
theorem gX12_hasSpans_X12_setCliques : GoodIn wsX12_hasSpans (wsV RX12 170 RX12 yX12_setCliques wsX12_setCliques) := goodIn_app (goodIn_of _ (by decide +kernel)) ggX12_hasSpans_X12_setCliques
set_option maxRecDepth 20000 in
theorem ggX12_hasSpans_X12_isSound : GoodIn wsX12_hasSpans wsX12_isSound := goodIn_r _ [31, 15, 20, 11, 12, 13, 9, 14, 25, 26, 27, 21, 22, 23, 24, 43, 44, 45, 46, 47, 48, 49, 50, 51, 52, 53, 54, 55, 56, 57, 58, 59, 60, 61, 62, 63, 64, 65, 66, 67, 68, 69, 70, 71] (by decide +kernel) (by decide +kernel)
set_option maxRecDepth 20000 in
theorem gX12_hasSpans_X12_isSound : GoodIn wsX12_hasSpans (wsV RX12 115 RX12 yX12_isSound wsX12_isSound) := goodIn_app (goodIn_of _ (by decide +kernel)) ggX12_hasSpans_X12_isSound
set_option maxRecDepth 20000 in
theorem ggX12_hasSpans_X12_setLine : GoodIn wsX12_hasSpans wsX12_setLine := goodIn_r _ [35, 1, 36, 37, 2, 38, 25, 26, 9, 27, 39, 40, 41, 42, 4, 43, 44, 45, 46, 47, 48, 49, 50, 51, 52, 53, 54, 55, 56, 57, 58, 59, 60, 61, 62, 63, 64, 65, 66, 67, 68, 69, 70, 71] (by decide +kernel) (by decide +kernel)
set_option maxRecDepth 20000 in
theorem gX12_hasSpans_X12_setLine : GoodIn wsX12_hasSpans (wsV RX12 200 RX12 yX12_setLine wsX12_setLine) := goodIn_app (goodIn_of _ (by decide +kernel)) ggX12_hasSpans_X12_setLine
theorem dX12_hasSpans_0 : decode cX12_hasSpans 0 = .ok (.aload_n 0, 1) := by decide +kernel
theorem dX12_hasSpans_1 : decode cX12_hasSpans 1 = .ok (.invokevirtual 170, 3) := by decide +kernel
theorem dX12_hasSpans_4 : decode cX12_hasSpans 4 = .ok (.aload_n 0, 1) := by decide +kernel
theorem dX12_hasSpans_5 : decode cX12_hasSpans 5 = .ok (.iconst 0, 1) := by decide +kernel
theorem dX12_hasSpans_6 : decode cX12_hasSpans 6 = .ok (.putfield 191, 3) := by decide +kernel
theorem dX12_hasSpans_9 : decode cX12_hasSpans 9 = .ok (.aload_n 0, 1) := by decide +kernel
theorem dX12_hasSpans_10 : decode cX12_hasSpans 10 = .ok (.iconst 0, 1) := by decide +kernel
theorem dX12_hasSpans_11 : decode cX12_hasSpans 11 = .ok (.putfield 197, 3) := by decide +kernel
theorem dX12_hasSpans_14 : decode cX12_hasSpans 14 = .ok (.aload_n 0, 1) := by decide +kernel
theorem dX12_hasSpans_15 : decode cX12_hasSpans 15 = .ok (.invokevirtual 115, 3) := by decide +kernel
theorem dX12_hasSpans_18 : decode cX12_hasSpans 18 = .ok (.ifCond .ne 5, 3) := by decide +kernel
theorem dX12_hasSpans_23 : decode cX12_hasSpans 23 = .ok (.iconst 0, 1) := by decide +kernel
theorem dX12_hasSpans_24 : decode cX12_hasSpans 24 = .ok (.istore_n 1, 1) := by decide +kernel
theorem dX12_hasSpans_25 : decode cX12_hasSpans 25 = .ok (.iload_n 1, 1) := by decide +kernel
theorem dX12_hasSpans_26 : decode cX12_hasSpans 26 = .ok (.aload_n 0, 1) := by decide +kernel
theorem dX12_hasSpans_27 : decode cX12_hasSpans 27 = .ok (.getfield 164, 3) := by decide +kernel
theorem dX12_hasSpans_30 : decode cX12_hasSpans 30 = .ok (.if_icmp .ge 21, 3) := by decide +kernel
theorem dX12_hasSpans_51 : decode cX12_hasSpans 51 = .ok (.aload_n 0, 1) := by decide +kernel
theorem dX12_hasSpans_52 : decode cX12_hasSpans 52 = .ok (.aload_n 0, 1) := by decide +kernel
theorem dX12_hasSpans_53 : decode cX12_hasSpans 53 = .ok (.getfield 164, 3) := by decide +kernel
theorem dX12_hasSpans_56 : decode cX12_hasSpans 56 = .ok (.putfield 191, 3) := by decide +kernel
theorem dX12_hasSpans_59 : decode cX12_hasSpans 59 = .ok (.aload_n 0, 1) := by decide +kernel
theorem dX12_hasSpans_60 : decode cX12_hasSpans 60 = .ok (.invokevirtual 200, 3) := by decide +kernel
theorem dX12_hasSpans_63 : decode cX12_hasSpans 63 = .ok (.aload_n 0, 1) := by decide +kernel
theorem dX12_hasSpans_64 : decode cX12_hasSpans 64 = .ok (.getfield 197, 3) := by decide +kernel
theorem dX12_hasSpans_67 : decode cX12_hasSpans 67 = .ok (.aload_n 0, 1) := by decide +kernel
theorem dX12_hasSpans_68 : decode cX12_hasSpans 68 = .ok (.getfield 164, 3) := by decide +kernel
theorem dX12_hasSpans_71 : decode cX12_hasSpans 71 = .ok (.if_icmp .ne 7, 3) := by decide +kernel
theorem dX12_hasSpans_74 : decode cX12_hasSpans 74 = .ok (.iconst 1, 1) := by decide +kernel
theorem dX12_hasSpans_75 : decode cX12_hasSpans 75 = .ok (.goto 4, 3) := by decide +kernel
theorem dX12_hasSpans_79 : decode cX12_hasSpans 79 = .ok (.ireturn, 1) := by decide +kernel
set_option maxRecDepth 20000 in
theorem ggX12_line_X12_hasSpans : GoodIn wsX12_line wsX12_hasSpans := goodIn_r _ [7, 8, 1, 9, 10, 11, 12, 13, 14, 6, 15, 16, 17, 18, 19, 20, 21, 22, 23, 24, 25, 26, 27, 28, 29, 30, 31, 32, 33, 34, 35, 36, 37, 38, 39, 40, 41, 42, 2, 43, 44, 45, 46, 50, 51, 52, 53, 54, 55, 56, 57, 58, 59, 60, 61, 62, 63, 64, 65, 66, 67, 68, 69, 70, 71, 72, 73, 74, 75, 76, 77, 78] (by decide +kernel) (by decide +kernel)
set_option maxRecDepth 20000 in
theorem gX12_line_X12_hasSpans : GoodIn wsX12_line (wsV RX12 203 RX12 yX12_hasSpans wsX12_hasSpans) := goodIn_app (goodIn_of _ (by decide +kernel)) ggX12_line_X12_hasSpans
set_option maxRecDepth 20000 in
theorem ggX12_line_X12_in : GoodIn wsX12_line wsX12_in := goodIn_r _ [49] (by decide +kernel) (by decide +kernel)
set_option maxRecDepth 20000 in
theorem gX12_line_X12_in : GoodIn wsX12_line (va_wsS RX12 76 yX12_in wsX12_in) := goodIn_app (goodIn_of _ (by decide +kernel)) ggX12_line_X12_in
theorem dX12_line_0 : decode cX12_line 0 = .ok (.aload_n 0, 1) := by decide +kernel
theorem dX12_line_1 : decode cX12_line 1 = .ok (.invokevirtual 203, 3) := by decide +kernel
theorem dX12_line_4 : decode cX12_line 4 = .ok (.ifCond .eq 26, 3) := by decide +kernel
theorem dX12_line_7 : decode cX12_line 7 = .ok (.iload_n 1, 1) := by decide +kernel
theorem dX12_line_8 : decode cX12_line 8 = .ok (.iconst 0, 1) := by decide +kernel
theorem dX12_line_9 : decode cX12_line 9 = .ok (.aload_n 0, 1) := by decide +kernel
theorem dX12_line_10 : decode cX12_line 10 = .ok (.getfield 197, 3) := by decide +kernel
theorem dX12_line_13 : decode cX12_line 13 = .ok (.iconst 1, 1) := by decide +kernel
theorem dX12_line_14 : decode cX12_line 14 = .ok (.isub, 1) := by decide +kernel
theorem dX12_line_15 : decode cX12_line 15 = .ok (.invokestatic 76, 3) := by decide +kernel
theorem dX12_line_18 : decode cX12_line 18 = .ok (.ifCond .eq 12, 3) := by decide +kernel
theorem dX12_line_30 : decode cX12_line 30 = .ok (.bipush (-9), 2) := by decide +kernel
theorem dX12_line_32 : decode cX12_line 32 = .ok (.ireturn, 1) := by decide +kernel
set_option maxRecDepth 20000 in
theorem ggX12_span_X12_isNode : GoodIn wsX12_span wsX12_isNode := goodIn_r _ [8, 9, 10, 11, 7, 12, 54, 55, 56, 57, 58, 59, 60, 61, 62, 63, 64, 65, 66, 67, 68, 69, 70, 71, 72, 73, 74, 75, 76, 77, 78, 79, 80, 81, 82] (by decide +kernel) (by decide +kernel)
set_option maxRecDepth 20000 in
theorem gX12_span_X12_isNode : GoodIn wsX12_span (wsV RX12 86 RX12 yX12_isNode wsX12_isNode) := goodIn_app (goodIn_of _ (by decide +kernel)) ggX12_span_X12_isNode
theorem dX12_span_0 : decode cX12_span 0 = .ok (.aload_n 0, 1) := by decide +kernel
theorem dX12_span_1 : decode cX12_span 1 = .ok (.iload_n 1, 1) := by decide +kernel
theorem dX12_span_2 : decode cX12_span 2 = .ok (.invokevirtual 86, 3) := by decide +kernel
theorem dX12_span_5 : decode cX12_span 5 = .ok (.ifCond .ne 5, 3) := by decide +kernel
theorem dX12_span_8 : decode cX12_span 8 = .ok (.iconst (-1), 1) := by decide +kernel
theorem dX12_span_9 : decode cX12_span 9 = .ok (.ireturn, 1) := by decide +kernel
theorem dX12_far_0 : decode cX12_far 0 = .ok (.iconst 0, 1) := by decide +kernel
theorem dX12_far_1 : decode cX12_far 1 = .ok (.istore_n 2, 1) := by decide +kernel
theorem dX12_far_2 : decode cX12_far 2 = .ok (.iload_n 2, 1) := by decide +kernel
theorem dX12_far_3 : decode cX12_far 3 = .ok (.aload_n 0, 1) := by decide +kernel
theorem dX12_far_4 : decode cX12_far 4 = .ok (.getfield 73, 3) := by decide +kernel
theorem dX12_far_7 : decode cX12_far 7 = .ok (.if_icmp .ge 88, 3) := by decide +kernel
theorem dX12_far_95 : decode cX12_far 95 = .ok (.bipush (-9), 2) := by decide +kernel
theorem dX12_far_97 : decode cX12_far 97 = .ok (.ireturn, 1) := by decide +kernel
set_option maxRecDepth 20000 in
theorem ggX12_columns_X12_meets : GoodIn wsX12_columns wsX12_meets := goodIn_r _ [7, 8, 9, 10, 11, 12, 13, 14, 15, 16, 17, 18, 19, 20, 21, 22, 23, 24, 25, 26, 27, 28, 29, 30, 31, 32, 33, 34, 35, 36, 37, 38] (by decide +kernel) (by decide +kernel)
set_option maxRecDepth 20000 in
theorem gX12_columns_X12_meets : GoodIn wsX12_columns (wsV RX12 112 RX12 yX12_meets wsX12_meets) := goodIn_app (goodIn_of _ (by decide +kernel)) ggX12_columns_X12_meets
theorem dX12_columns_0 : decode cX12_columns 0 = .ok (.iload_n 1, 1) := by decide +kernel
theorem dX12_columns_1 : decode cX12_columns 1 = .ok (.bipush 8, 2) := by decide +kernel
theorem dX12_columns_3 : decode cX12_columns 3 = .ok (.if_icmp .le 5, 3) := by decide +kernel
theorem dX12_columns_6 : decode cX12_columns 6 = .ok (.iconst (-1), 1) := by decide +kernel
theorem dX12_columns_7 : decode cX12_columns 7 = .ok (.ireturn, 1) := by decide +kernel
theorem dX12_columns_8 : decode cX12_columns 8 = .ok (.iload_n 1, 1) := by decide +kernel
theorem dX12_columns_9 : decode cX12_columns 9 = .ok (.ifCond .ge 9, 3) := by decide +kernel
theorem dX12_columns_12 : decode cX12_columns 12 = .ok (.aload_n 0, 1) := by decide +kernel
theorem dX12_columns_13 : decode cX12_columns 13 = .ok (.iconst 4, 1) := by decide +kernel
theorem dX12_columns_14 : decode cX12_columns 14 = .ok (.invokevirtual 112, 3) := by decide +kernel
theorem dX12_columns_17 : decode cX12_columns 17 = .ok (.ireturn, 1) := by decide +kernel
theorem dX12_columns_18 : decode cX12_columns 18 = .ok (.aload_n 0, 1) := by decide +kernel
theorem dX12_columns_19 : decode cX12_columns 19 = .ok (.iload_n 1, 1) := by decide +kernel
theorem dX12_columns_20 : decode cX12_columns 20 = .ok (.putfield 128, 3) := by decide +kernel
theorem dX12_columns_23 : decode cX12_columns 23 = .ok (.iconst 0, 1) := by decide +kernel
theorem dX12_columns_24 : decode cX12_columns 24 = .ok (.istore_n 2, 1) := by decide +kernel
theorem dX12_columns_25 : decode cX12_columns 25 = .ok (.iload_n 2, 1) := by decide +kernel
theorem dX12_columns_26 : decode cX12_columns 26 = .ok (.bipush 12, 2) := by decide +kernel
theorem dX12_columns_28 : decode cX12_columns 28 = .ok (.if_icmp .ge 17, 3) := by decide +kernel
theorem dX12_columns_31 : decode cX12_columns 31 = .ok (.aload_n 0, 1) := by decide +kernel
theorem dX12_columns_32 : decode cX12_columns 32 = .ok (.getfield 16, 3) := by decide +kernel
theorem dX12_columns_35 : decode cX12_columns 35 = .ok (.iload_n 2, 1) := by decide +kernel
theorem dX12_columns_36 : decode cX12_columns 36 = .ok (.bipush (-9), 2) := by decide +kernel
theorem dX12_columns_38 : decode cX12_columns 38 = .ok (.iastore, 1) := by decide +kernel
theorem dX12_columns_39 : decode cX12_columns 39 = .ok (.iinc 2 1, 3) := by decide +kernel
theorem dX12_columns_42 : decode cX12_columns 42 = .ok (.goto (-17), 3) := by decide +kernel
theorem dX12_columns_45 : decode cX12_columns 45 = .ok (.iload_n 1, 1) := by decide +kernel
theorem dX12_columns_46 : decode cX12_columns 46 = .ok (.ireturn, 1) := by decide +kernel
set_option maxRecDepth 20000 in
theorem ggX12_row_X12_in : GoodIn wsX12_row wsX12_in := goodIn_r _ [6] (by decide +kernel) (by decide +kernel)
set_option maxRecDepth 20000 in
theorem gX12_row_X12_in : GoodIn wsX12_row (va_wsS RX12 76 yX12_in wsX12_in) := goodIn_app (goodIn_of _ (by decide +kernel)) ggX12_row_X12_in
set_option maxRecDepth 20000 in
theorem ggX12_row_X12_meets : GoodIn wsX12_row wsX12_meets := goodIn_r _ [10, 11, 12, 13, 14, 15, 16, 17, 18, 19, 20, 21, 22, 23, 24, 25, 26, 27, 28, 29, 30, 31, 32, 33, 34, 35, 36, 37, 38, 39, 40, 41] (by decide +kernel) (by decide +kernel)
set_option maxRecDepth 20000 in
theorem gX12_row_X12_meets : GoodIn wsX12_row (wsV RX12 112 RX12 yX12_meets wsX12_meets) := goodIn_app (goodIn_of _ (by decide +kernel)) ggX12_row_X12_meets
theorem dX12_row_0 : decode cX12_row 0 = .ok (.iload_n 2, 1) := by decide +kernel
theorem dX12_row_1 : decode cX12_row 1 = .ok (.iconst 0, 1) := by decide +kernel
theorem dX12_row_2 : decode cX12_row 2 = .ok (.iconst 1, 1) := by decide +kernel
theorem dX12_row_3 : decode cX12_row 3 = .ok (.aload_n 0, 1) := by decide +kernel
theorem dX12_row_4 : decode cX12_row 4 = .ok (.getfield 128, 3) := by decide +kernel
theorem dX12_row_7 : decode cX12_row 7 = .ok (.ishl, 1) := by decide +kernel
theorem dX12_row_8 : decode cX12_row 8 = .ok (.iconst 1, 1) := by decide +kernel
theorem dX12_row_9 : decode cX12_row 9 = .ok (.isub, 1) := by decide +kernel
theorem dX12_row_10 : decode cX12_row 10 = .ok (.invokestatic 76, 3) := by decide +kernel
theorem dX12_row_13 : decode cX12_row 13 = .ok (.ifCond .ne 5, 3) := by decide +kernel
theorem dX12_row_16 : decode cX12_row 16 = .ok (.iconst (-1), 1) := by decide +kernel
theorem dX12_row_17 : decode cX12_row 17 = .ok (.ireturn, 1) := by decide +kernel
theorem dX12_row_18 : decode cX12_row 18 = .ok (.iload_n 1, 1) := by decide +kernel
theorem dX12_row_19 : decode cX12_row 19 = .ok (.iconst 0, 1) := by decide +kernel
theorem dX12_row_20 : decode cX12_row 20 = .ok (.bipush 11, 2) := by decide +kernel
theorem dX12_row_22 : decode cX12_row 22 = .ok (.invokestatic 76, 3) := by decide +kernel
theorem dX12_row_25 : decode cX12_row 25 = .ok (.ifCond .ne 9, 3) := by decide +kernel
theorem dX12_row_28 : decode cX12_row 28 = .ok (.aload_n 0, 1) := by decide +kernel
theorem dX12_row_29 : decode cX12_row 29 = .ok (.iconst 2, 1) := by decide +kernel
theorem dX12_row_30 : decode cX12_row 30 = .ok (.invokevirtual 112, 3) := by decide +kernel
theorem dX12_row_33 : decode cX12_row 33 = .ok (.ireturn, 1) := by decide +kernel
theorem dX12_row_34 : decode cX12_row 34 = .ok (.aload_n 0, 1) := by decide +kernel
theorem dX12_row_35 : decode cX12_row 35 = .ok (.getfield 16, 3) := by decide +kernel
theorem dX12_row_38 : decode cX12_row 38 = .ok (.iload_n 1, 1) := by decide +kernel
theorem dX12_row_39 : decode cX12_row 39 = .ok (.iload_n 2, 1) := by decide +kernel
theorem dX12_row_40 : decode cX12_row 40 = .ok (.iastore, 1) := by decide +kernel
theorem dX12_row_41 : decode cX12_row 41 = .ok (.iconst 1, 1) := by decide +kernel
theorem dX12_row_42 : decode cX12_row 42 = .ok (.ireturn, 1) := by decide +kernel
set_option maxRecDepth 20000 in
theorem ggX12_told_X12_in : GoodIn wsX12_told wsX12_in := goodIn_r _ [5] (by decide +kernel) (by decide +kernel)
set_option maxRecDepth 20000 in
theorem gX12_told_X12_in : GoodIn wsX12_told (va_wsS RX12 76 yX12_in wsX12_in) := goodIn_app (goodIn_of _ (by decide +kernel)) ggX12_told_X12_in
set_option maxRecDepth 20000 in
theorem ggX12_told_X12_meets : GoodIn wsX12_told wsX12_meets := goodIn_r _ [9, 10, 11, 12, 13, 14, 15, 16, 17, 18, 19, 20, 21, 22, 23, 24, 25, 26, 27, 28, 29, 30, 31, 32, 33, 34, 35, 36, 37, 38, 39, 40] (by decide +kernel) (by decide +kernel)
set_option maxRecDepth 20000 in
theorem gX12_told_X12_meets : GoodIn wsX12_told (wsV RX12 112 RX12 yX12_meets wsX12_meets) := goodIn_app (goodIn_of _ (by decide +kernel)) ggX12_told_X12_meets
theorem dX12_told_0 : decode cX12_told 0 = .ok (.iload_n 1, 1) := by decide +kernel
theorem dX12_told_1 : decode cX12_told 1 = .ok (.iconst 0, 1) := by decide +kernel
theorem dX12_told_2 : decode cX12_told 2 = .ok (.bipush 11, 2) := by decide +kernel
theorem dX12_told_4 : decode cX12_told 4 = .ok (.invokestatic 76, 3) := by decide +kernel
theorem dX12_told_7 : decode cX12_told 7 = .ok (.ifCond .ne 11, 3) := by decide +kernel
theorem dX12_told_10 : decode cX12_told 10 = .ok (.aload_n 0, 1) := by decide +kernel
theorem dX12_told_11 : decode cX12_told 11 = .ok (.iconst 2, 1) := by decide +kernel
theorem dX12_told_12 : decode cX12_told 12 = .ok (.invokevirtual 112, 3) := by decide +kernel
theorem dX12_told_15 : decode cX12_told 15 = .ok (.goto 26, 3) := by decide +kernel
theorem dX12_told_18 : decode cX12_told 18 = .ok (.aload_n 0, 1) := by decide +kernel
theorem dX12_told_19 : decode cX12_told 19 = .ok (.getfield 16, 3) := by decide +kernel
theorem dX12_told_22 : decode cX12_told 22 = .ok (.iload_n 1, 1) := by decide +kernel
theorem dX12_told_23 : decode cX12_told 23 = .ok (.iaload, 1) := by decide +kernel
theorem dX12_told_24 : decode cX12_told 24 = .ok (.ifCond .ge 11, 3) := by decide +kernel
theorem dX12_told_27 : decode cX12_told 27 = .ok (.aload_n 0, 1) := by decide +kernel
theorem dX12_told_28 : decode cX12_told 28 = .ok (.iconst 1, 1) := by decide +kernel
theorem dX12_told_29 : decode cX12_told 29 = .ok (.invokevirtual 112, 3) := by decide +kernel
theorem dX12_told_32 : decode cX12_told 32 = .ok (.goto 9, 3) := by decide +kernel
theorem dX12_told_41 : decode cX12_told 41 = .ok (.ireturn, 1) := by decide +kernel
set_option maxRecDepth 20000 in
theorem ggX12_tear_X12_in : GoodIn wsX12_tear wsX12_in := goodIn_r _ [5] (by decide +kernel) (by decide +kernel)
set_option maxRecDepth 20000 in
theorem gX12_tear_X12_in : GoodIn wsX12_tear (va_wsS RX12 76 yX12_in wsX12_in) := goodIn_app (goodIn_of _ (by decide +kernel)) ggX12_tear_X12_in
set_option maxRecDepth 20000 in
theorem ggX12_tear_X12_meets : GoodIn wsX12_tear wsX12_meets := goodIn_r _ [9, 10, 11, 12, 13, 14, 15, 16, 17, 18, 19, 20, 21, 22, 23, 24, 25, 26, 27, 28, 29, 30, 31, 32, 33, 34, 35, 36, 37, 38, 39, 40] (by decide +kernel) (by decide +kernel)
set_option maxRecDepth 20000 in
theorem gX12_tear_X12_meets : GoodIn wsX12_tear (wsV RX12 112 RX12 yX12_meets wsX12_meets) := goodIn_app (goodIn_of _ (by decide +kernel)) ggX12_tear_X12_meets
theorem dX12_tear_0 : decode cX12_tear 0 = .ok (.iload_n 1, 1) := by decide +kernel
theorem dX12_tear_1 : decode cX12_tear 1 = .ok (.iconst 0, 1) := by decide +kernel
theorem dX12_tear_2 : decode cX12_tear 2 = .ok (.bipush 11, 2) := by decide +kernel
theorem dX12_tear_4 : decode cX12_tear 4 = .ok (.invokestatic 76, 3) := by decide +kernel
theorem dX12_tear_7 : decode cX12_tear 7 = .ok (.ifCond .ne 9, 3) := by decide +kernel
theorem dX12_tear_10 : decode cX12_tear 10 = .ok (.aload_n 0, 1) := by decide +kernel
theorem dX12_tear_11 : decode cX12_tear 11 = .ok (.iconst 2, 1) := by decide +kernel
theorem dX12_tear_12 : decode cX12_tear 12 = .ok (.invokevirtual 112, 3) := by decide +kernel
theorem dX12_tear_15 : decode cX12_tear 15 = .ok (.ireturn, 1) := by decide +kernel
theorem dX12_tear_16 : decode cX12_tear 16 = .ok (.aload_n 0, 1) := by decide +kernel
theorem dX12_tear_17 : decode cX12_tear 17 = .ok (.getfield 16, 3) := by decide +kernel
theorem dX12_tear_20 : decode cX12_tear 20 = .ok (.iload_n 1, 1) := by decide +kernel
theorem dX12_tear_21 : decode cX12_tear 21 = .ok (.iaload, 1) := by decide +kernel
theorem dX12_tear_22 : decode cX12_tear 22 = .ok (.ifCond .ge 9, 3) := by decide +kernel
theorem dX12_tear_25 : decode cX12_tear 25 = .ok (.aload_n 0, 1) := by decide +kernel
theorem dX12_tear_26 : decode cX12_tear 26 = .ok (.iconst 1, 1) := by decide +kernel
theorem dX12_tear_27 : decode cX12_tear 27 = .ok (.invokevirtual 112, 3) := by decide +kernel
theorem dX12_tear_30 : decode cX12_tear 30 = .ok (.ireturn, 1) := by decide +kernel
set_option maxRecDepth 20000 in
theorem ggX12_copy_X12_meets : GoodIn wsX12_copy wsX12_meets := goodIn_r _ [8, 9, 10, 11, 12, 13, 14, 15, 16, 17, 18, 19, 20, 21, 22, 23, 24, 25, 26, 27, 28, 29, 30, 31, 32, 33, 34, 35, 36, 37, 38, 39] (by decide +kernel) (by decide +kernel)
set_option maxRecDepth 20000 in
theorem gX12_copy_X12_meets : GoodIn wsX12_copy (wsV RX12 112 RX12 yX12_meets wsX12_meets) := goodIn_app (goodIn_of _ (by decide +kernel)) ggX12_copy_X12_meets
theorem dX12_copy_0 : decode cX12_copy 0 = .ok (.iload_n 1, 1) := by decide +kernel
theorem dX12_copy_1 : decode cX12_copy 1 = .ok (.ifCond .lt 35, 3) := by decide +kernel
theorem dX12_copy_4 : decode cX12_copy 4 = .ok (.iload_n 2, 1) := by decide +kernel
theorem dX12_copy_5 : decode cX12_copy 5 = .ok (.ifCond .lt 31, 3) := by decide +kernel
theorem dX12_copy_8 : decode cX12_copy 8 = .ok (.iload_n 3, 1) := by decide +kernel
theorem dX12_copy_9 : decode cX12_copy 9 = .ok (.ifCond .lt 27, 3) := by decide +kernel
theorem dX12_copy_12 : decode cX12_copy 12 = .ok (.iload_n 1, 1) := by decide +kernel
theorem dX12_copy_13 : decode cX12_copy 13 = .ok (.i2l, 1) := by decide +kernel
theorem dX12_copy_14 : decode cX12_copy 14 = .ok (.iload_n 3, 1) := by decide +kernel
theorem dX12_copy_15 : decode cX12_copy 15 = .ok (.i2l, 1) := by decide +kernel
theorem dX12_copy_16 : decode cX12_copy 16 = .ok (.ladd, 1) := by decide +kernel
theorem dX12_copy_17 : decode cX12_copy 17 = .ok (.ldc2_w 209, 3) := by decide +kernel
theorem dX12_copy_20 : decode cX12_copy 20 = .ok (.lcmp, 1) := by decide +kernel
theorem dX12_copy_21 : decode cX12_copy 21 = .ok (.ifCond .gt 15, 3) := by decide +kernel
theorem dX12_copy_24 : decode cX12_copy 24 = .ok (.iload_n 2, 1) := by decide +kernel
theorem dX12_copy_25 : decode cX12_copy 25 = .ok (.i2l, 1) := by decide +kernel
theorem dX12_copy_26 : decode cX12_copy 26 = .ok (.iload_n 3, 1) := by decide +kernel
theorem dX12_copy_27 : decode cX12_copy 27 = .ok (.i2l, 1) := by decide +kernel
theorem dX12_copy_28 : decode cX12_copy 28 = .ok (.ladd, 1) := by decide +kernel
theorem dX12_copy_29 : decode cX12_copy 29 = .ok (.ldc2_w 209, 3) := by decide +kernel
theorem dX12_copy_32 : decode cX12_copy 32 = .ok (.lcmp, 1) := by decide +kernel
theorem dX12_copy_33 : decode cX12_copy 33 = .ok (.ifCond .le 9, 3) := by decide +kernel
theorem dX12_copy_36 : decode cX12_copy 36 = .ok (.aload_n 0, 1) := by decide +kernel
theorem dX12_copy_37 : decode cX12_copy 37 = .ok (.iconst 2, 1) := by decide +kernel
theorem dX12_copy_38 : decode cX12_copy 38 = .ok (.invokevirtual 112, 3) := by decide +kernel
theorem dX12_copy_41 : decode cX12_copy 41 = .ok (.ireturn, 1) := by decide +kernel
theorem dX12_copy_42 : decode cX12_copy 42 = .ok (.iconst 0, 1) := by decide +kernel
theorem dX12_copy_43 : decode cX12_copy 43 = .ok (.istore 4, 2) := by decide +kernel
theorem dX12_copy_45 : decode cX12_copy 45 = .ok (.iload 4, 2) := by decide +kernel
theorem dX12_copy_47 : decode cX12_copy 47 = .ok (.iload_n 3, 1) := by decide +kernel
theorem dX12_copy_48 : decode cX12_copy 48 = .ok (.if_icmp .ge 25, 3) := by decide +kernel
theorem dX12_copy_51 : decode cX12_copy 51 = .ok (.aload_n 0, 1) := by decide +kernel
theorem dX12_copy_52 : decode cX12_copy 52 = .ok (.getfield 67, 3) := by decide +kernel
theorem dX12_copy_55 : decode cX12_copy 55 = .ok (.iload 4, 2) := by decide +kernel
theorem dX12_copy_57 : decode cX12_copy 57 = .ok (.aload_n 0, 1) := by decide +kernel
theorem dX12_copy_58 : decode cX12_copy 58 = .ok (.getfield 16, 3) := by decide +kernel
theorem dX12_copy_61 : decode cX12_copy 61 = .ok (.iload_n 1, 1) := by decide +kernel
theorem dX12_copy_62 : decode cX12_copy 62 = .ok (.iload 4, 2) := by decide +kernel
theorem dX12_copy_64 : decode cX12_copy 64 = .ok (.iadd, 1) := by decide +kernel
theorem dX12_copy_65 : decode cX12_copy 65 = .ok (.iaload, 1) := by decide +kernel
theorem dX12_copy_66 : decode cX12_copy 66 = .ok (.iastore, 1) := by decide +kernel
theorem dX12_copy_67 : decode cX12_copy 67 = .ok (.iinc 4 1, 3) := by decide +kernel
theorem dX12_copy_70 : decode cX12_copy 70 = .ok (.goto (-25), 3) := by decide +kernel
theorem dX12_copy_73 : decode cX12_copy 73 = .ok (.iconst 0, 1) := by decide +kernel
theorem dX12_copy_74 : decode cX12_copy 74 = .ok (.istore 4, 2) := by decide +kernel
theorem dX12_copy_76 : decode cX12_copy 76 = .ok (.iload 4, 2) := by decide +kernel
theorem dX12_copy_78 : decode cX12_copy 78 = .ok (.iload_n 3, 1) := by decide +kernel
theorem dX12_copy_79 : decode cX12_copy 79 = .ok (.if_icmp .ge 25, 3) := by decide +kernel
theorem dX12_copy_82 : decode cX12_copy 82 = .ok (.aload_n 0, 1) := by decide +kernel
theorem dX12_copy_83 : decode cX12_copy 83 = .ok (.getfield 16, 3) := by decide +kernel
theorem dX12_copy_86 : decode cX12_copy 86 = .ok (.iload_n 2, 1) := by decide +kernel
theorem dX12_copy_87 : decode cX12_copy 87 = .ok (.iload 4, 2) := by decide +kernel
theorem dX12_copy_89 : decode cX12_copy 89 = .ok (.iadd, 1) := by decide +kernel
theorem dX12_copy_90 : decode cX12_copy 90 = .ok (.aload_n 0, 1) := by decide +kernel
