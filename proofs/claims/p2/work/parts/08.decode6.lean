theorem dX12_isColoured_69 : decode cX12_isColoured 69 = .ok (.goto (-46), 3) := by decide +kernel
theorem dX12_isColoured_72 : decode cX12_isColoured 72 = .ok (.aload_n 0, 1) := by decide +kernel
theorem dX12_isColoured_73 : decode cX12_isColoured 73 = .ok (.getfield 48, 3) := by decide +kernel
theorem dX12_isColoured_76 : decode cX12_isColoured 76 = .ok (.iload_n 1, 1) := by decide +kernel
theorem dX12_isColoured_77 : decode cX12_isColoured 77 = .ok (.iload_n 3, 1) := by decide +kernel
theorem dX12_isColoured_78 : decode cX12_isColoured 78 = .ok (.iastore, 1) := by decide +kernel
theorem dX12_isColoured_79 : decode cX12_isColoured 79 = .ok (.iload 4, 2) := by decide +kernel
theorem dX12_isColoured_81 : decode cX12_isColoured 81 = .ok (.ifCond .eq 16, 3) := by decide +kernel
theorem dX12_isColoured_84 : decode cX12_isColoured 84 = .ok (.aload_n 0, 1) := by decide +kernel
theorem dX12_isColoured_85 : decode cX12_isColoured 85 = .ok (.iload_n 1, 1) := by decide +kernel
theorem dX12_isColoured_86 : decode cX12_isColoured 86 = .ok (.iconst 1, 1) := by decide +kernel
theorem dX12_isColoured_87 : decode cX12_isColoured 87 = .ok (.iadd, 1) := by decide +kernel
theorem dX12_isColoured_88 : decode cX12_isColoured 88 = .ok (.iload_n 2, 1) := by decide +kernel
theorem dX12_isColoured_89 : decode cX12_isColoured 89 = .ok (.invokevirtual 176, 3) := by decide +kernel
theorem dX12_isColoured_92 : decode cX12_isColoured 92 = .ok (.ifCond .eq 5, 3) := by decide +kernel
theorem dX12_isColoured_95 : decode cX12_isColoured 95 = .ok (.iconst 1, 1) := by decide +kernel
theorem dX12_isColoured_96 : decode cX12_isColoured 96 = .ok (.ireturn, 1) := by decide +kernel
theorem dX12_isColoured_97 : decode cX12_isColoured 97 = .ok (.iinc 3 1, 3) := by decide +kernel
theorem dX12_isColoured_100 : decode cX12_isColoured 100 = .ok (.goto (-88), 3) := by decide +kernel
theorem dX12_isColoured_103 : decode cX12_isColoured 103 = .ok (.iconst 0, 1) := by decide +kernel
theorem dX12_isColoured_104 : decode cX12_isColoured 104 = .ok (.ireturn, 1) := by decide +kernel
set_option maxRecDepth 20000 in
theorem ggX12_colour_X12_isNode : GoodIn wsX12_colour wsX12_isNode := goodIn_r _ [6, 7, 8, 9, 5, 10, 19, 20, 21, 22, 23, 24, 25, 26, 27, 28, 29, 30, 31, 32, 33, 34, 35, 36, 37, 38, 39, 40, 41, 42, 43, 44, 45, 46, 47] (by decide +kernel) (by decide +kernel)
set_option maxRecDepth 20000 in
theorem gX12_colour_X12_isNode : GoodIn wsX12_colour (wsV RX12 86 RX12 yX12_isNode wsX12_isNode) := goodIn_app (goodIn_of _ (by decide +kernel)) ggX12_colour_X12_isNode
set_option maxRecDepth 20000 in
theorem ggX12_colour_X12_isColoured : GoodIn wsX12_colour wsX12_isColoured := goodIn_r _ [14, 7, 15, 1, 16, 17, 5, 18, 11, 12, 13, 19, 20, 21, 22, 23, 24, 25, 26, 27, 28, 29, 30, 31, 32, 33, 34, 35, 36, 37, 38, 39, 40, 41, 42, 43, 44, 45, 46, 47] (by decide +kernel) (by decide +kernel)
set_option maxRecDepth 20000 in
theorem gX12_colour_X12_isColoured : GoodIn wsX12_colour (wsV RX12 176 RX12 yX12_isColoured wsX12_isColoured) := goodIn_app (goodIn_of _ (by decide +kernel)) ggX12_colour_X12_isColoured
theorem dX12_colour_0 : decode cX12_colour 0 = .ok (.iload_n 1, 1) := by decide +kernel
theorem dX12_colour_1 : decode cX12_colour 1 = .ok (.iconst (-1), 1) := by decide +kernel
theorem dX12_colour_2 : decode cX12_colour 2 = .ok (.if_icmp .eq 13, 3) := by decide +kernel
theorem dX12_colour_5 : decode cX12_colour 5 = .ok (.aload_n 0, 1) := by decide +kernel
theorem dX12_colour_6 : decode cX12_colour 6 = .ok (.iload_n 1, 1) := by decide +kernel
theorem dX12_colour_7 : decode cX12_colour 7 = .ok (.invokevirtual 86, 3) := by decide +kernel
theorem dX12_colour_10 : decode cX12_colour 10 = .ok (.ifCond .ne 5, 3) := by decide +kernel
theorem dX12_colour_13 : decode cX12_colour 13 = .ok (.iconst (-1), 1) := by decide +kernel
theorem dX12_colour_14 : decode cX12_colour 14 = .ok (.ireturn, 1) := by decide +kernel
theorem dX12_colour_15 : decode cX12_colour 15 = .ok (.iconst 0, 1) := by decide +kernel
theorem dX12_colour_16 : decode cX12_colour 16 = .ok (.istore_n 2, 1) := by decide +kernel
theorem dX12_colour_17 : decode cX12_colour 17 = .ok (.aload_n 0, 1) := by decide +kernel
theorem dX12_colour_18 : decode cX12_colour 18 = .ok (.iconst 0, 1) := by decide +kernel
theorem dX12_colour_19 : decode cX12_colour 19 = .ok (.iload_n 2, 1) := by decide +kernel
theorem dX12_colour_20 : decode cX12_colour 20 = .ok (.invokevirtual 176, 3) := by decide +kernel
theorem dX12_colour_23 : decode cX12_colour 23 = .ok (.ifCond .ne 9, 3) := by decide +kernel
theorem dX12_colour_26 : decode cX12_colour 26 = .ok (.iinc 2 1, 3) := by decide +kernel
theorem dX12_colour_29 : decode cX12_colour 29 = .ok (.goto (-12), 3) := by decide +kernel
theorem dX12_colour_32 : decode cX12_colour 32 = .ok (.iload_n 1, 1) := by decide +kernel
theorem dX12_colour_33 : decode cX12_colour 33 = .ok (.iconst (-1), 1) := by decide +kernel
theorem dX12_colour_34 : decode cX12_colour 34 = .ok (.if_icmp .ne 7, 3) := by decide +kernel
theorem dX12_colour_37 : decode cX12_colour 37 = .ok (.iload_n 2, 1) := by decide +kernel
theorem dX12_colour_38 : decode cX12_colour 38 = .ok (.goto 9, 3) := by decide +kernel
theorem dX12_colour_41 : decode cX12_colour 41 = .ok (.aload_n 0, 1) := by decide +kernel
theorem dX12_colour_42 : decode cX12_colour 42 = .ok (.getfield 48, 3) := by decide +kernel
theorem dX12_colour_45 : decode cX12_colour 45 = .ok (.iload_n 1, 1) := by decide +kernel
theorem dX12_colour_46 : decode cX12_colour 46 = .ok (.iaload, 1) := by decide +kernel
theorem dX12_colour_47 : decode cX12_colour 47 = .ok (.ireturn, 1) := by decide +kernel
set_option maxRecDepth 20000 in
theorem ggX12_apart_X12_all : GoodIn wsX12_apart wsX12_all := goodIn_r _ [5, 6, 18, 19, 20, 21, 22, 23, 24, 25, 26, 27, 28, 29, 30, 31, 32, 33, 34, 35, 36, 37, 38, 39, 40, 41, 42, 43, 44, 45, 46] (by decide +kernel) (by decide +kernel)
set_option maxRecDepth 20000 in
theorem gX12_apart_X12_all : GoodIn wsX12_apart (wsV RX12 101 RX12 yX12_all wsX12_all) := goodIn_app (goodIn_of _ (by decide +kernel)) ggX12_apart_X12_all
set_option maxRecDepth 20000 in
theorem ggX12_apart_X12_bits : GoodIn wsX12_apart wsX12_bits := goodIn_r _ [9] (by decide +kernel) (by decide +kernel)
set_option maxRecDepth 20000 in
theorem gX12_apart_X12_bits : GoodIn wsX12_apart (va_wsS RX12 109 yX12_bits wsX12_bits) := goodIn_app (goodIn_of _ (by decide +kernel)) ggX12_apart_X12_bits
set_option maxRecDepth 20000 in
theorem ggX12_apart_X12_isApart : GoodIn wsX12_apart wsX12_isApart := goodIn_r _ [13, 6, 14, 15, 16, 4, 17, 18, 19, 20, 21, 22, 23, 24, 25, 26, 27, 28, 29, 30, 31, 32, 33, 34, 35, 36, 37, 38, 39, 40, 41, 42, 43, 44, 45, 46] (by decide +kernel) (by decide +kernel)
set_option maxRecDepth 20000 in
theorem gX12_apart_X12_isApart : GoodIn wsX12_apart (wsV RX12 173 RX12 yX12_isApart wsX12_isApart) := goodIn_app (goodIn_of _ (by decide +kernel)) ggX12_apart_X12_isApart
theorem dX12_apart_0 : decode cX12_apart 0 = .ok (.iconst 0, 1) := by decide +kernel
theorem dX12_apart_1 : decode cX12_apart 1 = .ok (.istore_n 1, 1) := by decide +kernel
theorem dX12_apart_2 : decode cX12_apart 2 = .ok (.iconst 0, 1) := by decide +kernel
theorem dX12_apart_3 : decode cX12_apart 3 = .ok (.istore_n 2, 1) := by decide +kernel
theorem dX12_apart_4 : decode cX12_apart 4 = .ok (.iload_n 2, 1) := by decide +kernel
theorem dX12_apart_5 : decode cX12_apart 5 = .ok (.aload_n 0, 1) := by decide +kernel
theorem dX12_apart_6 : decode cX12_apart 6 = .ok (.invokevirtual 101, 3) := by decide +kernel
theorem dX12_apart_9 : decode cX12_apart 9 = .ok (.if_icmp .gt 34, 3) := by decide +kernel
theorem dX12_apart_12 : decode cX12_apart 12 = .ok (.iload_n 2, 1) := by decide +kernel
theorem dX12_apart_13 : decode cX12_apart 13 = .ok (.invokestatic 109, 3) := by decide +kernel
theorem dX12_apart_16 : decode cX12_apart 16 = .ok (.iload_n 1, 1) := by decide +kernel
theorem dX12_apart_17 : decode cX12_apart 17 = .ok (.invokestatic 109, 3) := by decide +kernel
theorem dX12_apart_20 : decode cX12_apart 20 = .ok (.if_icmp .le 15, 3) := by decide +kernel
theorem dX12_apart_23 : decode cX12_apart 23 = .ok (.aload_n 0, 1) := by decide +kernel
theorem dX12_apart_24 : decode cX12_apart 24 = .ok (.iload_n 2, 1) := by decide +kernel
theorem dX12_apart_25 : decode cX12_apart 25 = .ok (.invokevirtual 173, 3) := by decide +kernel
theorem dX12_apart_28 : decode cX12_apart 28 = .ok (.ifCond .eq 7, 3) := by decide +kernel
theorem dX12_apart_31 : decode cX12_apart 31 = .ok (.iload_n 2, 1) := by decide +kernel
theorem dX12_apart_32 : decode cX12_apart 32 = .ok (.goto 4, 3) := by decide +kernel
theorem dX12_apart_35 : decode cX12_apart 35 = .ok (.iload_n 1, 1) := by decide +kernel
theorem dX12_apart_36 : decode cX12_apart 36 = .ok (.istore_n 1, 1) := by decide +kernel
theorem dX12_apart_37 : decode cX12_apart 37 = .ok (.iinc 2 1, 3) := by decide +kernel
theorem dX12_apart_40 : decode cX12_apart 40 = .ok (.goto (-36), 3) := by decide +kernel
theorem dX12_apart_43 : decode cX12_apart 43 = .ok (.iload_n 1, 1) := by decide +kernel
theorem dX12_apart_44 : decode cX12_apart 44 = .ok (.ireturn, 1) := by decide +kernel
set_option maxRecDepth 20000 in
theorem ggX12_setTree_X12_bits : GoodIn wsX12_setTree wsX12_bits := goodIn_r _ [7] (by decide +kernel) (by decide +kernel)
set_option maxRecDepth 20000 in
theorem gX12_setTree_X12_bits : GoodIn wsX12_setTree (va_wsS RX12 109 yX12_bits wsX12_bits) := goodIn_app (goodIn_of _ (by decide +kernel)) ggX12_setTree_X12_bits
set_option maxRecDepth 20000 in
theorem ggX12_setTree_X12_has : GoodIn wsX12_setTree wsX12_has := goodIn_r _ [10] (by decide +kernel) (by decide +kernel)
set_option maxRecDepth 20000 in
theorem gX12_setTree_X12_has : GoodIn wsX12_setTree (va_wsS RX12 90 yX12_has wsX12_has) := goodIn_app (goodIn_of _ (by decide +kernel)) ggX12_setTree_X12_has
theorem dX12_setTree_0 : decode cX12_setTree 0 = .ok (.iconst 0, 1) := by decide +kernel
theorem dX12_setTree_1 : decode cX12_setTree 1 = .ok (.istore_n 1, 1) := by decide +kernel
theorem dX12_setTree_2 : decode cX12_setTree 2 = .ok (.iload_n 1, 1) := by decide +kernel
theorem dX12_setTree_3 : decode cX12_setTree 3 = .ok (.aload_n 0, 1) := by decide +kernel
theorem dX12_setTree_4 : decode cX12_setTree 4 = .ok (.getfield 164, 3) := by decide +kernel
theorem dX12_setTree_7 : decode cX12_setTree 7 = .ok (.if_icmp .ge 17, 3) := by decide +kernel
theorem dX12_setTree_10 : decode cX12_setTree 10 = .ok (.aload_n 0, 1) := by decide +kernel
theorem dX12_setTree_11 : decode cX12_setTree 11 = .ok (.getfield 51, 3) := by decide +kernel
theorem dX12_setTree_14 : decode cX12_setTree 14 = .ok (.iload_n 1, 1) := by decide +kernel
theorem dX12_setTree_15 : decode cX12_setTree 15 = .ok (.bipush (-9), 2) := by decide +kernel
theorem dX12_setTree_17 : decode cX12_setTree 17 = .ok (.iastore, 1) := by decide +kernel
theorem dX12_setTree_18 : decode cX12_setTree 18 = .ok (.iinc 1 1, 3) := by decide +kernel
theorem dX12_setTree_21 : decode cX12_setTree 21 = .ok (.goto (-19), 3) := by decide +kernel
theorem dX12_setTree_24 : decode cX12_setTree 24 = .ok (.iconst 1, 1) := by decide +kernel
theorem dX12_setTree_25 : decode cX12_setTree 25 = .ok (.istore_n 1, 1) := by decide +kernel
theorem dX12_setTree_26 : decode cX12_setTree 26 = .ok (.iconst 1, 1) := by decide +kernel
theorem dX12_setTree_27 : decode cX12_setTree 27 = .ok (.istore_n 2, 1) := by decide +kernel
theorem dX12_setTree_28 : decode cX12_setTree 28 = .ok (.iload_n 2, 1) := by decide +kernel
theorem dX12_setTree_29 : decode cX12_setTree 29 = .ok (.aload_n 0, 1) := by decide +kernel
theorem dX12_setTree_30 : decode cX12_setTree 30 = .ok (.getfield 164, 3) := by decide +kernel
theorem dX12_setTree_33 : decode cX12_setTree 33 = .ok (.if_icmp .ge 127, 3) := by decide +kernel
theorem dX12_setTree_36 : decode cX12_setTree 36 = .ok (.bipush (-9), 2) := by decide +kernel
theorem dX12_setTree_38 : decode cX12_setTree 38 = .ok (.istore_n 3, 1) := by decide +kernel
theorem dX12_setTree_39 : decode cX12_setTree 39 = .ok (.bipush (-9), 2) := by decide +kernel
theorem dX12_setTree_41 : decode cX12_setTree 41 = .ok (.istore 4, 2) := by decide +kernel
theorem dX12_setTree_43 : decode cX12_setTree 43 = .ok (.bipush (-9), 2) := by decide +kernel
theorem dX12_setTree_45 : decode cX12_setTree 45 = .ok (.istore 5, 2) := by decide +kernel
theorem dX12_setTree_47 : decode cX12_setTree 47 = .ok (.iconst 0, 1) := by decide +kernel
theorem dX12_setTree_48 : decode cX12_setTree 48 = .ok (.istore 6, 2) := by decide +kernel
theorem dX12_setTree_50 : decode cX12_setTree 50 = .ok (.iload 6, 2) := by decide +kernel
theorem dX12_setTree_52 : decode cX12_setTree 52 = .ok (.aload_n 0, 1) := by decide +kernel
theorem dX12_setTree_53 : decode cX12_setTree 53 = .ok (.getfield 164, 3) := by decide +kernel
theorem dX12_setTree_56 : decode cX12_setTree 56 = .ok (.if_icmp .ge 83, 3) := by decide +kernel
theorem dX12_setTree_59 : decode cX12_setTree 59 = .ok (.iconst 0, 1) := by decide +kernel
theorem dX12_setTree_60 : decode cX12_setTree 60 = .ok (.istore 7, 2) := by decide +kernel
theorem dX12_setTree_62 : decode cX12_setTree 62 = .ok (.iload 7, 2) := by decide +kernel
theorem dX12_setTree_64 : decode cX12_setTree 64 = .ok (.aload_n 0, 1) := by decide +kernel
theorem dX12_setTree_65 : decode cX12_setTree 65 = .ok (.getfield 164, 3) := by decide +kernel
theorem dX12_setTree_68 : decode cX12_setTree 68 = .ok (.if_icmp .ge 65, 3) := by decide +kernel
theorem dX12_setTree_71 : decode cX12_setTree 71 = .ok (.aload_n 0, 1) := by decide +kernel
theorem dX12_setTree_72 : decode cX12_setTree 72 = .ok (.getfield 45, 3) := by decide +kernel
theorem dX12_setTree_75 : decode cX12_setTree 75 = .ok (.iload 6, 2) := by decide +kernel
theorem dX12_setTree_77 : decode cX12_setTree 77 = .ok (.iaload, 1) := by decide +kernel
theorem dX12_setTree_78 : decode cX12_setTree 78 = .ok (.aload_n 0, 1) := by decide +kernel
theorem dX12_setTree_79 : decode cX12_setTree 79 = .ok (.getfield 45, 3) := by decide +kernel
theorem dX12_setTree_82 : decode cX12_setTree 82 = .ok (.iload 7, 2) := by decide +kernel
theorem dX12_setTree_84 : decode cX12_setTree 84 = .ok (.iaload, 1) := by decide +kernel
theorem dX12_setTree_85 : decode cX12_setTree 85 = .ok (.iand, 1) := by decide +kernel
theorem dX12_setTree_86 : decode cX12_setTree 86 = .ok (.invokestatic 109, 3) := by decide +kernel
theorem dX12_setTree_89 : decode cX12_setTree 89 = .ok (.istore 8, 2) := by decide +kernel
theorem dX12_setTree_91 : decode cX12_setTree 91 = .ok (.iload_n 1, 1) := by decide +kernel
theorem dX12_setTree_92 : decode cX12_setTree 92 = .ok (.iload 6, 2) := by decide +kernel
theorem dX12_setTree_94 : decode cX12_setTree 94 = .ok (.invokestatic 90, 3) := by decide +kernel
theorem dX12_setTree_97 : decode cX12_setTree 97 = .ok (.ifCond .eq 30, 3) := by decide +kernel
theorem dX12_setTree_100 : decode cX12_setTree 100 = .ok (.iload_n 1, 1) := by decide +kernel
theorem dX12_setTree_101 : decode cX12_setTree 101 = .ok (.iload 7, 2) := by decide +kernel
theorem dX12_setTree_103 : decode cX12_setTree 103 = .ok (.invokestatic 90, 3) := by decide +kernel
theorem dX12_setTree_106 : decode cX12_setTree 106 = .ok (.ifCond .ne 21, 3) := by decide +kernel
theorem dX12_setTree_109 : decode cX12_setTree 109 = .ok (.iload 8, 2) := by decide +kernel
theorem dX12_setTree_111 : decode cX12_setTree 111 = .ok (.iload 5, 2) := by decide +kernel
theorem dX12_setTree_113 : decode cX12_setTree 113 = .ok (.if_icmp .le 14, 3) := by decide +kernel
theorem dX12_setTree_116 : decode cX12_setTree 116 = .ok (.iload 6, 2) := by decide +kernel
theorem dX12_setTree_118 : decode cX12_setTree 118 = .ok (.istore_n 3, 1) := by decide +kernel
theorem dX12_setTree_119 : decode cX12_setTree 119 = .ok (.iload 7, 2) := by decide +kernel
theorem dX12_setTree_121 : decode cX12_setTree 121 = .ok (.istore 4, 2) := by decide +kernel
theorem dX12_setTree_123 : decode cX12_setTree 123 = .ok (.iload 8, 2) := by decide +kernel
theorem dX12_setTree_125 : decode cX12_setTree 125 = .ok (.istore 5, 2) := by decide +kernel
theorem dX12_setTree_127 : decode cX12_setTree 127 = .ok (.iinc 7 1, 3) := by decide +kernel
theorem dX12_setTree_130 : decode cX12_setTree 130 = .ok (.goto (-68), 3) := by decide +kernel
theorem dX12_setTree_133 : decode cX12_setTree 133 = .ok (.iinc 6 1, 3) := by decide +kernel
theorem dX12_setTree_136 : decode cX12_setTree 136 = .ok (.goto (-86), 3) := by decide +kernel
theorem dX12_setTree_139 : decode cX12_setTree 139 = .ok (.aload_n 0, 1) := by decide +kernel
theorem dX12_setTree_140 : decode cX12_setTree 140 = .ok (.getfield 51, 3) := by decide +kernel
theorem dX12_setTree_143 : decode cX12_setTree 143 = .ok (.iload 4, 2) := by decide +kernel
theorem dX12_setTree_145 : decode cX12_setTree 145 = .ok (.iload_n 3, 1) := by decide +kernel
theorem dX12_setTree_146 : decode cX12_setTree 146 = .ok (.iastore, 1) := by decide +kernel
theorem dX12_setTree_147 : decode cX12_setTree 147 = .ok (.iload_n 1, 1) := by decide +kernel
theorem dX12_setTree_148 : decode cX12_setTree 148 = .ok (.iconst 1, 1) := by decide +kernel
theorem dX12_setTree_149 : decode cX12_setTree 149 = .ok (.iload 4, 2) := by decide +kernel
theorem dX12_setTree_151 : decode cX12_setTree 151 = .ok (.ishl, 1) := by decide +kernel
theorem dX12_setTree_152 : decode cX12_setTree 152 = .ok (.ior, 1) := by decide +kernel
theorem dX12_setTree_153 : decode cX12_setTree 153 = .ok (.istore_n 1, 1) := by decide +kernel
theorem dX12_setTree_154 : decode cX12_setTree 154 = .ok (.iinc 2 1, 3) := by decide +kernel
theorem dX12_setTree_157 : decode cX12_setTree 157 = .ok (.goto (-129), 3) := by decide +kernel
theorem dX12_setTree_160 : decode cX12_setTree 160 = .ok (.return_, 1) := by decide +kernel
set_option maxRecDepth 20000 in
theorem ggX12_tree_X12_setCliques : GoodIn wsX12_tree wsX12_setCliques := goodIn_r _ [8, 1, 3, 9, 10, 11, 7, 12, 13, 14, 15, 16, 17, 18, 19, 20, 21, 22, 23, 24, 25, 40, 41, 42, 43, 44, 45, 46, 47, 48, 49, 50, 51, 52, 53, 54, 55, 56, 57, 58, 59, 60, 61, 62, 63, 64, 65, 66, 67, 68] (by decide +kernel) (by decide +kernel)
set_option maxRecDepth 20000 in
theorem gX12_tree_X12_setCliques : GoodIn wsX12_tree (wsV RX12 170 RX12 yX12_setCliques wsX12_setCliques) := goodIn_app (goodIn_of _ (by decide +kernel)) ggX12_tree_X12_setCliques
set_option maxRecDepth 20000 in
theorem ggX12_tree_X12_in : GoodIn wsX12_tree wsX12_in := goodIn_r _ [28] (by decide +kernel) (by decide +kernel)
set_option maxRecDepth 20000 in
theorem gX12_tree_X12_in : GoodIn wsX12_tree (va_wsS RX12 76 yX12_in wsX12_in) := goodIn_app (goodIn_of _ (by decide +kernel)) ggX12_tree_X12_in
set_option maxRecDepth 20000 in
theorem ggX12_tree_X12_isSound : GoodIn wsX12_tree wsX12_isSound := goodIn_r _ [32, 13, 18, 9, 10, 11, 7, 12, 23, 24, 25, 19, 20, 21, 22, 40, 41, 42, 43, 44, 45, 46, 47, 48, 49, 50, 51, 52, 53, 54, 55, 56, 57, 58, 59, 60, 61, 62, 63, 64, 65, 66, 67, 68] (by decide +kernel) (by decide +kernel)
set_option maxRecDepth 20000 in
theorem gX12_tree_X12_isSound : GoodIn wsX12_tree (wsV RX12 115 RX12 yX12_isSound wsX12_isSound) := goodIn_app (goodIn_of _ (by decide +kernel)) ggX12_tree_X12_isSound
set_option maxRecDepth 20000 in
theorem ggX12_tree_X12_setTree : GoodIn wsX12_tree wsX12_setTree := goodIn_r _ [36, 1, 2, 3, 37, 38, 7, 39, 23, 24, 25, 40, 41, 42, 43, 44, 45, 46, 47, 48, 49, 50, 51, 52, 53, 54, 55, 56, 57, 58, 59, 60, 61, 62, 63, 64, 65, 66, 67, 68] (by decide +kernel) (by decide +kernel)
set_option maxRecDepth 20000 in
theorem gX12_tree_X12_setTree : GoodIn wsX12_tree (wsV RX12 179 RX12 yX12_setTree wsX12_setTree) := goodIn_app (goodIn_of _ (by decide +kernel)) ggX12_tree_X12_setTree
theorem dX12_tree_0 : decode cX12_tree 0 = .ok (.aload_n 0, 1) := by decide +kernel
theorem dX12_tree_1 : decode cX12_tree 1 = .ok (.invokevirtual 170, 3) := by decide +kernel
theorem dX12_tree_4 : decode cX12_tree 4 = .ok (.iload_n 1, 1) := by decide +kernel
theorem dX12_tree_5 : decode cX12_tree 5 = .ok (.iconst 0, 1) := by decide +kernel
theorem dX12_tree_6 : decode cX12_tree 6 = .ok (.aload_n 0, 1) := by decide +kernel
theorem dX12_tree_7 : decode cX12_tree 7 = .ok (.getfield 164, 3) := by decide +kernel
theorem dX12_tree_10 : decode cX12_tree 10 = .ok (.iconst 1, 1) := by decide +kernel
theorem dX12_tree_11 : decode cX12_tree 11 = .ok (.isub, 1) := by decide +kernel
theorem dX12_tree_12 : decode cX12_tree 12 = .ok (.invokestatic 76, 3) := by decide +kernel
theorem dX12_tree_15 : decode cX12_tree 15 = .ok (.ifCond .eq 12, 3) := by decide +kernel
theorem dX12_tree_18 : decode cX12_tree 18 = .ok (.iload_n 2, 1) := by decide +kernel
theorem dX12_tree_19 : decode cX12_tree 19 = .ok (.iconst 0, 1) := by decide +kernel
theorem dX12_tree_20 : decode cX12_tree 20 = .ok (.iconst 1, 1) := by decide +kernel
theorem dX12_tree_21 : decode cX12_tree 21 = .ok (.invokestatic 76, 3) := by decide +kernel
theorem dX12_tree_24 : decode cX12_tree 24 = .ok (.ifCond .ne 5, 3) := by decide +kernel
theorem dX12_tree_27 : decode cX12_tree 27 = .ok (.iconst (-1), 1) := by decide +kernel
theorem dX12_tree_28 : decode cX12_tree 28 = .ok (.ireturn, 1) := by decide +kernel
theorem dX12_tree_29 : decode cX12_tree 29 = .ok (.aload_n 0, 1) := by decide +kernel
theorem dX12_tree_30 : decode cX12_tree 30 = .ok (.invokevirtual 115, 3) := by decide +kernel
theorem dX12_tree_33 : decode cX12_tree 33 = .ok (.ifCond .ne 6, 3) := by decide +kernel
theorem dX12_tree_36 : decode cX12_tree 36 = .ok (.bipush (-4), 2) := by decide +kernel
theorem dX12_tree_38 : decode cX12_tree 38 = .ok (.ireturn, 1) := by decide +kernel
theorem dX12_tree_39 : decode cX12_tree 39 = .ok (.aload_n 0, 1) := by decide +kernel
theorem dX12_tree_40 : decode cX12_tree 40 = .ok (.invokevirtual 179, 3) := by decide +kernel
theorem dX12_tree_43 : decode cX12_tree 43 = .ok (.iload_n 2, 1) := by decide +kernel
theorem dX12_tree_44 : decode cX12_tree 44 = .ok (.ifCond .ne 12, 3) := by decide +kernel
theorem dX12_tree_47 : decode cX12_tree 47 = .ok (.aload_n 0, 1) := by decide +kernel
theorem dX12_tree_48 : decode cX12_tree 48 = .ok (.getfield 51, 3) := by decide +kernel
theorem dX12_tree_51 : decode cX12_tree 51 = .ok (.iload_n 1, 1) := by decide +kernel
theorem dX12_tree_52 : decode cX12_tree 52 = .ok (.iaload, 1) := by decide +kernel
theorem dX12_tree_53 : decode cX12_tree 53 = .ok (.goto 34, 3) := by decide +kernel
theorem dX12_tree_56 : decode cX12_tree 56 = .ok (.aload_n 0, 1) := by decide +kernel
theorem dX12_tree_57 : decode cX12_tree 57 = .ok (.getfield 51, 3) := by decide +kernel
theorem dX12_tree_60 : decode cX12_tree 60 = .ok (.iload_n 1, 1) := by decide +kernel
theorem dX12_tree_61 : decode cX12_tree 61 = .ok (.iaload, 1) := by decide +kernel
theorem dX12_tree_62 : decode cX12_tree 62 = .ok (.ifCond .ge 7, 3) := by decide +kernel
theorem dX12_tree_65 : decode cX12_tree 65 = .ok (.iconst 0, 1) := by decide +kernel
theorem dX12_tree_66 : decode cX12_tree 66 = .ok (.goto 21, 3) := by decide +kernel
theorem dX12_tree_69 : decode cX12_tree 69 = .ok (.aload_n 0, 1) := by decide +kernel
theorem dX12_tree_70 : decode cX12_tree 70 = .ok (.getfield 45, 3) := by decide +kernel
theorem dX12_tree_73 : decode cX12_tree 73 = .ok (.iload_n 1, 1) := by decide +kernel
theorem dX12_tree_74 : decode cX12_tree 74 = .ok (.iaload, 1) := by decide +kernel
theorem dX12_tree_75 : decode cX12_tree 75 = .ok (.aload_n 0, 1) := by decide +kernel
theorem dX12_tree_76 : decode cX12_tree 76 = .ok (.getfield 45, 3) := by decide +kernel
theorem dX12_tree_79 : decode cX12_tree 79 = .ok (.aload_n 0, 1) := by decide +kernel
theorem dX12_tree_80 : decode cX12_tree 80 = .ok (.getfield 51, 3) := by decide +kernel
theorem dX12_tree_83 : decode cX12_tree 83 = .ok (.iload_n 1, 1) := by decide +kernel
theorem dX12_tree_84 : decode cX12_tree 84 = .ok (.iaload, 1) := by decide +kernel
theorem dX12_tree_85 : decode cX12_tree 85 = .ok (.iaload, 1) := by decide +kernel
theorem dX12_tree_86 : decode cX12_tree 86 = .ok (.iand, 1) := by decide +kernel
theorem dX12_tree_87 : decode cX12_tree 87 = .ok (.ireturn, 1) := by decide +kernel
set_option maxRecDepth 20000 in
theorem ggX12_reach_X12_has : GoodIn wsX12_reach wsX12_has := goodIn_r _ [6] (by decide +kernel) (by decide +kernel)
set_option maxRecDepth 20000 in
theorem gX12_reach_X12_has : GoodIn wsX12_reach (va_wsS RX12 90 yX12_has wsX12_has) := goodIn_app (goodIn_of _ (by decide +kernel)) ggX12_reach_X12_has
theorem dX12_reach_0 : decode cX12_reach 0 = .ok (.iconst 1, 1) := by decide +kernel
theorem dX12_reach_1 : decode cX12_reach 1 = .ok (.iload_n 1, 1) := by decide +kernel
theorem dX12_reach_2 : decode cX12_reach 2 = .ok (.ishl, 1) := by decide +kernel
theorem dX12_reach_3 : decode cX12_reach 3 = .ok (.istore_n 3, 1) := by decide +kernel
theorem dX12_reach_4 : decode cX12_reach 4 = .ok (.iconst 1, 1) := by decide +kernel
theorem dX12_reach_5 : decode cX12_reach 5 = .ok (.istore 4, 2) := by decide +kernel
theorem dX12_reach_7 : decode cX12_reach 7 = .ok (.iload 4, 2) := by decide +kernel
theorem dX12_reach_9 : decode cX12_reach 9 = .ok (.ifCond .eq 72, 3) := by decide +kernel
theorem dX12_reach_12 : decode cX12_reach 12 = .ok (.iload_n 3, 1) := by decide +kernel
theorem dX12_reach_13 : decode cX12_reach 13 = .ok (.istore 5, 2) := by decide +kernel
theorem dX12_reach_15 : decode cX12_reach 15 = .ok (.iconst 0, 1) := by decide +kernel
theorem dX12_reach_16 : decode cX12_reach 16 = .ok (.istore 6, 2) := by decide +kernel
theorem dX12_reach_18 : decode cX12_reach 18 = .ok (.iload 6, 2) := by decide +kernel
theorem dX12_reach_20 : decode cX12_reach 20 = .ok (.aload_n 0, 1) := by decide +kernel
theorem dX12_reach_21 : decode cX12_reach 21 = .ok (.getfield 73, 3) := by decide +kernel
theorem dX12_reach_24 : decode cX12_reach 24 = .ok (.if_icmp .ge 38, 3) := by decide +kernel
theorem dX12_reach_27 : decode cX12_reach 27 = .ok (.iload 5, 2) := by decide +kernel
theorem dX12_reach_29 : decode cX12_reach 29 = .ok (.iload_n 3, 1) := by decide +kernel
theorem dX12_reach_30 : decode cX12_reach 30 = .ok (.iload 6, 2) := by decide +kernel
theorem dX12_reach_32 : decode cX12_reach 32 = .ok (.invokestatic 90, 3) := by decide +kernel
theorem dX12_reach_35 : decode cX12_reach 35 = .ok (.ifCond .eq 17, 3) := by decide +kernel
theorem dX12_reach_38 : decode cX12_reach 38 = .ok (.aload_n 0, 1) := by decide +kernel
theorem dX12_reach_39 : decode cX12_reach 39 = .ok (.getfield 13, 3) := by decide +kernel
theorem dX12_reach_42 : decode cX12_reach 42 = .ok (.iload 6, 2) := by decide +kernel
theorem dX12_reach_44 : decode cX12_reach 44 = .ok (.iaload, 1) := by decide +kernel
theorem dX12_reach_45 : decode cX12_reach 45 = .ok (.iload_n 2, 1) := by decide +kernel
theorem dX12_reach_46 : decode cX12_reach 46 = .ok (.iconst (-1), 1) := by decide +kernel
theorem dX12_reach_47 : decode cX12_reach 47 = .ok (.ixor, 1) := by decide +kernel
theorem dX12_reach_48 : decode cX12_reach 48 = .ok (.iand, 1) := by decide +kernel
theorem dX12_reach_49 : decode cX12_reach 49 = .ok (.goto 4, 3) := by decide +kernel
theorem dX12_reach_52 : decode cX12_reach 52 = .ok (.iconst 0, 1) := by decide +kernel
theorem dX12_reach_53 : decode cX12_reach 53 = .ok (.ior, 1) := by decide +kernel
theorem dX12_reach_54 : decode cX12_reach 54 = .ok (.istore 5, 2) := by decide +kernel
theorem dX12_reach_56 : decode cX12_reach 56 = .ok (.iinc 6 1, 3) := by decide +kernel
theorem dX12_reach_59 : decode cX12_reach 59 = .ok (.goto (-41), 3) := by decide +kernel
theorem dX12_reach_62 : decode cX12_reach 62 = .ok (.iload 5, 2) := by decide +kernel
theorem dX12_reach_64 : decode cX12_reach 64 = .ok (.iload_n 3, 1) := by decide +kernel
theorem dX12_reach_65 : decode cX12_reach 65 = .ok (.if_icmp .eq 7, 3) := by decide +kernel
theorem dX12_reach_68 : decode cX12_reach 68 = .ok (.iconst 1, 1) := by decide +kernel
theorem dX12_reach_69 : decode cX12_reach 69 = .ok (.goto 4, 3) := by decide +kernel
theorem dX12_reach_72 : decode cX12_reach 72 = .ok (.iconst 0, 1) := by decide +kernel
theorem dX12_reach_73 : decode cX12_reach 73 = .ok (.istore 4, 2) := by decide +kernel
theorem dX12_reach_75 : decode cX12_reach 75 = .ok (.iload 5, 2) := by decide +kernel
theorem dX12_reach_77 : decode cX12_reach 77 = .ok (.istore_n 3, 1) := by decide +kernel
theorem dX12_reach_78 : decode cX12_reach 78 = .ok (.goto (-71), 3) := by decide +kernel
theorem dX12_reach_81 : decode cX12_reach 81 = .ok (.iload_n 3, 1) := by decide +kernel
theorem dX12_reach_82 : decode cX12_reach 82 = .ok (.ireturn, 1) := by decide +kernel
set_option maxRecDepth 20000 in
theorem ggX12_parts_X12_reach : GoodIn wsX12_parts wsX12_reach := goodIn_r _ [5, 6, 7, 8, 9, 4, 10, 11, 12, 13, 14, 15, 16, 17, 18, 19, 20, 21, 22, 23, 24, 25, 26, 27, 28, 29, 30, 31, 32, 33, 34, 35, 36, 37, 38, 39] (by decide +kernel) (by decide +kernel)
set_option maxRecDepth 20000 in
theorem gX12_parts_X12_reach : GoodIn wsX12_parts (wsV RX12 182 RX12 yX12_reach wsX12_reach) := goodIn_app (goodIn_of _ (by decide +kernel)) ggX12_parts_X12_reach
set_option maxRecDepth 20000 in
theorem ggX12_parts_X12_has : GoodIn wsX12_parts wsX12_has := goodIn_r _ [10] (by decide +kernel) (by decide +kernel)
set_option maxRecDepth 20000 in
theorem gX12_parts_X12_has : GoodIn wsX12_parts (va_wsS RX12 90 yX12_has wsX12_has) := goodIn_app (goodIn_of _ (by decide +kernel)) ggX12_parts_X12_has
theorem dX12_parts_0 : decode cX12_parts 0 = .ok (.aload_n 0, 1) := by decide +kernel
theorem dX12_parts_1 : decode cX12_parts 1 = .ok (.iload_n 1, 1) := by decide +kernel
theorem dX12_parts_2 : decode cX12_parts 2 = .ok (.iload_n 3, 1) := by decide +kernel
theorem dX12_parts_3 : decode cX12_parts 3 = .ok (.invokevirtual 182, 3) := by decide +kernel
theorem dX12_parts_6 : decode cX12_parts 6 = .ok (.iload_n 2, 1) := by decide +kernel
theorem dX12_parts_7 : decode cX12_parts 7 = .ok (.invokestatic 90, 3) := by decide +kernel
theorem dX12_parts_10 : decode cX12_parts 10 = .ok (.ifCond .ne 7, 3) := by decide +kernel
theorem dX12_parts_13 : decode cX12_parts 13 = .ok (.iconst 1, 1) := by decide +kernel
theorem dX12_parts_14 : decode cX12_parts 14 = .ok (.goto 4, 3) := by decide +kernel
theorem dX12_parts_17 : decode cX12_parts 17 = .ok (.iconst 0, 1) := by decide +kernel
theorem dX12_parts_18 : decode cX12_parts 18 = .ok (.ireturn, 1) := by decide +kernel
set_option maxRecDepth 20000 in
theorem ggX12_isPart_X12_has : GoodIn wsX12_isPart wsX12_has := goodIn_r _ [5] (by decide +kernel) (by decide +kernel)
set_option maxRecDepth 20000 in
theorem gX12_isPart_X12_has : GoodIn wsX12_isPart (va_wsS RX12 90 yX12_has wsX12_has) := goodIn_app (goodIn_of _ (by decide +kernel)) ggX12_isPart_X12_has
set_option maxRecDepth 20000 in
theorem ggX12_isPart_X12_parts : GoodIn wsX12_isPart wsX12_parts := goodIn_r _ [9, 10, 11, 12, 4, 13, 1, 14, 2, 3, 5, 15, 16, 17, 18, 19, 20, 21, 22, 23, 24, 25, 26, 27, 28, 29, 30, 31, 32, 33, 34, 35, 36, 37, 38, 39, 40, 41, 42, 43] (by decide +kernel) (by decide +kernel)
set_option maxRecDepth 20000 in
theorem gX12_isPart_X12_parts : GoodIn wsX12_isPart (wsV RX12 185 RX12 yX12_parts wsX12_parts) := goodIn_app (goodIn_of _ (by decide +kernel)) ggX12_isPart_X12_parts
theorem dX12_isPart_0 : decode cX12_isPart 0 = .ok (.iload_n 3, 1) := by decide +kernel
theorem dX12_isPart_1 : decode cX12_isPart 1 = .ok (.iload_n 1, 1) := by decide +kernel
theorem dX12_isPart_2 : decode cX12_isPart 2 = .ok (.invokestatic 90, 3) := by decide +kernel
theorem dX12_isPart_5 : decode cX12_isPart 5 = .ok (.ifCond .ne 25, 3) := by decide +kernel
theorem dX12_isPart_8 : decode cX12_isPart 8 = .ok (.iload_n 3, 1) := by decide +kernel
theorem dX12_isPart_9 : decode cX12_isPart 9 = .ok (.iload_n 2, 1) := by decide +kernel
theorem dX12_isPart_10 : decode cX12_isPart 10 = .ok (.invokestatic 90, 3) := by decide +kernel
theorem dX12_isPart_13 : decode cX12_isPart 13 = .ok (.ifCond .ne 17, 3) := by decide +kernel
theorem dX12_isPart_16 : decode cX12_isPart 16 = .ok (.aload_n 0, 1) := by decide +kernel
theorem dX12_isPart_17 : decode cX12_isPart 17 = .ok (.iload_n 1, 1) := by decide +kernel
theorem dX12_isPart_18 : decode cX12_isPart 18 = .ok (.iload_n 2, 1) := by decide +kernel
theorem dX12_isPart_19 : decode cX12_isPart 19 = .ok (.iload_n 3, 1) := by decide +kernel
theorem dX12_isPart_20 : decode cX12_isPart 20 = .ok (.invokevirtual 185, 3) := by decide +kernel
theorem dX12_isPart_23 : decode cX12_isPart 23 = .ok (.ifCond .eq 7, 3) := by decide +kernel
theorem dX12_isPart_26 : decode cX12_isPart 26 = .ok (.iconst 1, 1) := by decide +kernel
theorem dX12_isPart_27 : decode cX12_isPart 27 = .ok (.goto 4, 3) := by decide +kernel
theorem dX12_isPart_30 : decode cX12_isPart 30 = .ok (.iconst 0, 1) := by decide +kernel
theorem dX12_isPart_31 : decode cX12_isPart 31 = .ok (.istore 4, 2) := by decide +kernel
theorem dX12_isPart_33 : decode cX12_isPart 33 = .ok (.iconst 0, 1) := by decide +kernel
theorem dX12_isPart_34 : decode cX12_isPart 34 = .ok (.istore 5, 2) := by decide +kernel
theorem dX12_isPart_36 : decode cX12_isPart 36 = .ok (.iload 5, 2) := by decide +kernel
theorem dX12_isPart_38 : decode cX12_isPart 38 = .ok (.aload_n 0, 1) := by decide +kernel
theorem dX12_isPart_39 : decode cX12_isPart 39 = .ok (.getfield 73, 3) := by decide +kernel
theorem dX12_isPart_42 : decode cX12_isPart 42 = .ok (.if_icmp .ge 47, 3) := by decide +kernel
theorem dX12_isPart_45 : decode cX12_isPart 45 = .ok (.iload 4, 2) := by decide +kernel
theorem dX12_isPart_47 : decode cX12_isPart 47 = .ok (.ifCond .eq 33, 3) := by decide +kernel
theorem dX12_isPart_50 : decode cX12_isPart 50 = .ok (.iload_n 3, 1) := by decide +kernel
theorem dX12_isPart_51 : decode cX12_isPart 51 = .ok (.iload 5, 2) := by decide +kernel
theorem dX12_isPart_53 : decode cX12_isPart 53 = .ok (.invokestatic 90, 3) := by decide +kernel
theorem dX12_isPart_56 : decode cX12_isPart 56 = .ok (.ifCond .eq 20, 3) := by decide +kernel
theorem dX12_isPart_59 : decode cX12_isPart 59 = .ok (.aload_n 0, 1) := by decide +kernel
theorem dX12_isPart_60 : decode cX12_isPart 60 = .ok (.iload_n 1, 1) := by decide +kernel
theorem dX12_isPart_61 : decode cX12_isPart 61 = .ok (.iload_n 2, 1) := by decide +kernel
theorem dX12_isPart_62 : decode cX12_isPart 62 = .ok (.iload_n 3, 1) := by decide +kernel
theorem dX12_isPart_63 : decode cX12_isPart 63 = .ok (.iconst 1, 1) := by decide +kernel
theorem dX12_isPart_64 : decode cX12_isPart 64 = .ok (.iload 5, 2) := by decide +kernel
theorem dX12_isPart_66 : decode cX12_isPart 66 = .ok (.ishl, 1) := by decide +kernel
theorem dX12_isPart_67 : decode cX12_isPart 67 = .ok (.iconst (-1), 1) := by decide +kernel
theorem dX12_isPart_68 : decode cX12_isPart 68 = .ok (.ixor, 1) := by decide +kernel
theorem dX12_isPart_69 : decode cX12_isPart 69 = .ok (.iand, 1) := by decide +kernel
theorem dX12_isPart_70 : decode cX12_isPart 70 = .ok (.invokevirtual 185, 3) := by decide +kernel
theorem dX12_isPart_73 : decode cX12_isPart 73 = .ok (.ifCond .ne 7, 3) := by decide +kernel
theorem dX12_isPart_76 : decode cX12_isPart 76 = .ok (.iconst 1, 1) := by decide +kernel
theorem dX12_isPart_77 : decode cX12_isPart 77 = .ok (.goto 4, 3) := by decide +kernel
theorem dX12_isPart_80 : decode cX12_isPart 80 = .ok (.iconst 0, 1) := by decide +kernel
theorem dX12_isPart_81 : decode cX12_isPart 81 = .ok (.istore 4, 2) := by decide +kernel
theorem dX12_isPart_83 : decode cX12_isPart 83 = .ok (.iinc 5 1, 3) := by decide +kernel
theorem dX12_isPart_86 : decode cX12_isPart 86 = .ok (.goto (-50), 3) := by decide +kernel
theorem dX12_isPart_89 : decode cX12_isPart 89 = .ok (.iload 4, 2) := by decide +kernel
theorem dX12_isPart_91 : decode cX12_isPart 91 = .ok (.ireturn, 1) := by decide +kernel
set_option maxRecDepth 20000 in
theorem ggX12_part_X12_isNode : GoodIn wsX12_part wsX12_isNode := goodIn_r _ [6, 7, 8, 9, 5, 10, 30, 31, 32, 33, 34, 35, 36, 37, 38, 39, 40, 41, 42, 43, 44, 45, 46, 47, 48, 49, 50, 51, 52, 53, 54, 55, 56, 57, 58] (by decide +kernel) (by decide +kernel)
set_option maxRecDepth 20000 in
theorem gX12_part_X12_isNode : GoodIn wsX12_part (wsV RX12 86 RX12 yX12_isNode wsX12_isNode) := goodIn_app (goodIn_of _ (by decide +kernel)) ggX12_part_X12_isNode
set_option maxRecDepth 20000 in
theorem ggX12_part_X12_has : GoodIn wsX12_part wsX12_has := goodIn_r _ [13] (by decide +kernel) (by decide +kernel)
set_option maxRecDepth 20000 in
theorem gX12_part_X12_has : GoodIn wsX12_part (va_wsS RX12 90 yX12_has wsX12_has) := goodIn_app (goodIn_of _ (by decide +kernel)) ggX12_part_X12_has
set_option maxRecDepth 20000 in
theorem ggX12_part_X12_all : GoodIn wsX12_part wsX12_all := goodIn_r _ [17, 7, 30, 31, 32, 33, 34, 35, 36, 37, 38, 39, 40, 41, 42, 43, 44, 45, 46, 47, 48, 49, 50, 51, 52, 53, 54, 55, 56, 57, 58] (by decide +kernel) (by decide +kernel)
set_option maxRecDepth 20000 in
theorem gX12_part_X12_all : GoodIn wsX12_part (wsV RX12 101 RX12 yX12_all wsX12_all) := goodIn_app (goodIn_of _ (by decide +kernel)) ggX12_part_X12_all
set_option maxRecDepth 20000 in
theorem ggX12_part_X12_isPart : GoodIn wsX12_part wsX12_isPart := goodIn_r _ [21, 7, 11, 12, 5, 13, 22, 23, 24, 25, 26, 27, 28, 29, 1, 30, 31, 32, 33, 34, 35, 36, 37, 38, 39, 40, 41, 42, 43, 44, 45, 46, 47, 48, 49, 50, 51, 52, 53, 54, 55, 56, 57, 58] (by decide +kernel) (by decide +kernel)
set_option maxRecDepth 20000 in
theorem gX12_part_X12_isPart : GoodIn wsX12_part (wsV RX12 188 RX12 yX12_isPart wsX12_isPart) := goodIn_app (goodIn_of _ (by decide +kernel)) ggX12_part_X12_isPart
theorem dX12_part_0 : decode cX12_part 0 = .ok (.aload_n 0, 1) := by decide +kernel
theorem dX12_part_1 : decode cX12_part 1 = .ok (.iload_n 1, 1) := by decide +kernel
theorem dX12_part_2 : decode cX12_part 2 = .ok (.invokevirtual 86, 3) := by decide +kernel
theorem dX12_part_5 : decode cX12_part 5 = .ok (.ifCond .eq 16, 3) := by decide +kernel
theorem dX12_part_8 : decode cX12_part 8 = .ok (.aload_n 0, 1) := by decide +kernel
theorem dX12_part_9 : decode cX12_part 9 = .ok (.iload_n 2, 1) := by decide +kernel
theorem dX12_part_10 : decode cX12_part 10 = .ok (.invokevirtual 86, 3) := by decide +kernel
theorem dX12_part_13 : decode cX12_part 13 = .ok (.ifCond .eq 8, 3) := by decide +kernel
theorem dX12_part_16 : decode cX12_part 16 = .ok (.iload_n 1, 1) := by decide +kernel
theorem dX12_part_17 : decode cX12_part 17 = .ok (.iload_n 2, 1) := by decide +kernel
theorem dX12_part_18 : decode cX12_part 18 = .ok (.if_icmp .ne 5, 3) := by decide +kernel
theorem dX12_part_21 : decode cX12_part 21 = .ok (.iconst (-1), 1) := by decide +kernel
theorem dX12_part_22 : decode cX12_part 22 = .ok (.ireturn, 1) := by decide +kernel
theorem dX12_part_23 : decode cX12_part 23 = .ok (.aload_n 0, 1) := by decide +kernel
theorem dX12_part_24 : decode cX12_part 24 = .ok (.getfield 13, 3) := by decide +kernel
theorem dX12_part_27 : decode cX12_part 27 = .ok (.iload_n 1, 1) := by decide +kernel
theorem dX12_part_28 : decode cX12_part 28 = .ok (.iaload, 1) := by decide +kernel
theorem dX12_part_29 : decode cX12_part 29 = .ok (.iload_n 2, 1) := by decide +kernel
theorem dX12_part_30 : decode cX12_part 30 = .ok (.invokestatic 90, 3) := by decide +kernel
theorem dX12_part_33 : decode cX12_part 33 = .ok (.ifCond .eq 6, 3) := by decide +kernel
theorem dX12_part_36 : decode cX12_part 36 = .ok (.bipush (-4), 2) := by decide +kernel
theorem dX12_part_38 : decode cX12_part 38 = .ok (.ireturn, 1) := by decide +kernel
theorem dX12_part_39 : decode cX12_part 39 = .ok (.iconst 0, 1) := by decide +kernel
theorem dX12_part_40 : decode cX12_part 40 = .ok (.istore 4, 2) := by decide +kernel
theorem dX12_part_42 : decode cX12_part 42 = .ok (.iconst 0, 1) := by decide +kernel
theorem dX12_part_43 : decode cX12_part 43 = .ok (.istore 5, 2) := by decide +kernel
theorem dX12_part_45 : decode cX12_part 45 = .ok (.iload 5, 2) := by decide +kernel
theorem dX12_part_47 : decode cX12_part 47 = .ok (.aload_n 0, 1) := by decide +kernel
theorem dX12_part_48 : decode cX12_part 48 = .ok (.invokevirtual 101, 3) := by decide +kernel
theorem dX12_part_51 : decode cX12_part 51 = .ok (.if_icmp .gt 32, 3) := by decide +kernel
theorem dX12_part_54 : decode cX12_part 54 = .ok (.aload_n 0, 1) := by decide +kernel
theorem dX12_part_55 : decode cX12_part 55 = .ok (.iload_n 1, 1) := by decide +kernel
theorem dX12_part_56 : decode cX12_part 56 = .ok (.iload_n 2, 1) := by decide +kernel
theorem dX12_part_57 : decode cX12_part 57 = .ok (.iload 5, 2) := by decide +kernel
theorem dX12_part_59 : decode cX12_part 59 = .ok (.invokevirtual 188, 3) := by decide +kernel
theorem dX12_part_62 : decode cX12_part 62 = .ok (.ifCond .eq 15, 3) := by decide +kernel
theorem dX12_part_65 : decode cX12_part 65 = .ok (.iload 4, 2) := by decide +kernel
theorem dX12_part_67 : decode cX12_part 67 = .ok (.iload_n 3, 1) := by decide +kernel
theorem dX12_part_68 : decode cX12_part 68 = .ok (.if_icmp .ne 6, 3) := by decide +kernel
theorem dX12_part_71 : decode cX12_part 71 = .ok (.iload 5, 2) := by decide +kernel
theorem dX12_part_73 : decode cX12_part 73 = .ok (.ireturn, 1) := by decide +kernel
theorem dX12_part_74 : decode cX12_part 74 = .ok (.iinc 4 1, 3) := by decide +kernel
theorem dX12_part_77 : decode cX12_part 77 = .ok (.iinc 5 1, 3) := by decide +kernel
theorem dX12_part_80 : decode cX12_part 80 = .ok (.goto (-35), 3) := by decide +kernel
theorem dX12_part_83 : decode cX12_part 83 = .ok (.iload_n 3, 1) := by decide +kernel
theorem dX12_part_84 : decode cX12_part 84 = .ok (.iconst (-1), 1) := by decide +kernel
theorem dX12_part_85 : decode cX12_part 85 = .ok (.if_icmp .ne 8, 3) := by decide +kernel
theorem dX12_part_88 : decode cX12_part 88 = .ok (.iload 4, 2) := by decide +kernel
theorem dX12_part_90 : decode cX12_part 90 = .ok (.goto 5, 3) := by decide +kernel
theorem dX12_part_93 : decode cX12_part 93 = .ok (.bipush (-9), 2) := by decide +kernel
theorem dX12_part_95 : decode cX12_part 95 = .ok (.ireturn, 1) := by decide +kernel
set_option maxRecDepth 20000 in
theorem ggX12_isWell_X12_has : GoodIn wsX12_isWell wsX12_has := goodIn_r _ [6] (by decide +kernel) (by decide +kernel)
set_option maxRecDepth 20000 in
theorem gX12_isWell_X12_has : GoodIn wsX12_isWell (va_wsS RX12 90 yX12_has wsX12_has) := goodIn_app (goodIn_of _ (by decide +kernel)) ggX12_isWell_X12_has
theorem dX12_isWell_0 : decode cX12_isWell 0 = .ok (.iconst 0, 1) := by decide +kernel
theorem dX12_isWell_1 : decode cX12_isWell 1 = .ok (.istore_n 3, 1) := by decide +kernel
theorem dX12_isWell_2 : decode cX12_isWell 2 = .ok (.iconst 0, 1) := by decide +kernel
theorem dX12_isWell_3 : decode cX12_isWell 3 = .ok (.istore 4, 2) := by decide +kernel
theorem dX12_isWell_5 : decode cX12_isWell 5 = .ok (.iconst 0, 1) := by decide +kernel
theorem dX12_isWell_6 : decode cX12_isWell 6 = .ok (.istore 5, 2) := by decide +kernel
theorem dX12_isWell_8 : decode cX12_isWell 8 = .ok (.iload 5, 2) := by decide +kernel
theorem dX12_isWell_10 : decode cX12_isWell 10 = .ok (.aload_n 0, 1) := by decide +kernel
theorem dX12_isWell_11 : decode cX12_isWell 11 = .ok (.getfield 191, 3) := by decide +kernel
theorem dX12_isWell_14 : decode cX12_isWell 14 = .ok (.if_icmp .ge 43, 3) := by decide +kernel
theorem dX12_isWell_17 : decode cX12_isWell 17 = .ok (.iload_n 1, 1) := by decide +kernel
theorem dX12_isWell_18 : decode cX12_isWell 18 = .ok (.iload 5, 2) := by decide +kernel
theorem dX12_isWell_20 : decode cX12_isWell 20 = .ok (.invokestatic 90, 3) := by decide +kernel
theorem dX12_isWell_23 : decode cX12_isWell 23 = .ok (.ifCond .eq 16, 3) := by decide +kernel
theorem dX12_isWell_26 : decode cX12_isWell 26 = .ok (.iload_n 3, 1) := by decide +kernel
theorem dX12_isWell_27 : decode cX12_isWell 27 = .ok (.aload_n 0, 1) := by decide +kernel
theorem dX12_isWell_28 : decode cX12_isWell 28 = .ok (.getfield 54, 3) := by decide +kernel
theorem dX12_isWell_31 : decode cX12_isWell 31 = .ok (.iload 5, 2) := by decide +kernel
theorem dX12_isWell_33 : decode cX12_isWell 33 = .ok (.iaload, 1) := by decide +kernel
theorem dX12_isWell_34 : decode cX12_isWell 34 = .ok (.ior, 1) := by decide +kernel
theorem dX12_isWell_35 : decode cX12_isWell 35 = .ok (.istore_n 3, 1) := by decide +kernel
theorem dX12_isWell_36 : decode cX12_isWell 36 = .ok (.goto 15, 3) := by decide +kernel
theorem dX12_isWell_39 : decode cX12_isWell 39 = .ok (.iload 4, 2) := by decide +kernel
theorem dX12_isWell_41 : decode cX12_isWell 41 = .ok (.aload_n 0, 1) := by decide +kernel
theorem dX12_isWell_42 : decode cX12_isWell 42 = .ok (.getfield 54, 3) := by decide +kernel
theorem dX12_isWell_45 : decode cX12_isWell 45 = .ok (.iload 5, 2) := by decide +kernel
theorem dX12_isWell_47 : decode cX12_isWell 47 = .ok (.iaload, 1) := by decide +kernel
theorem dX12_isWell_48 : decode cX12_isWell 48 = .ok (.ior, 1) := by decide +kernel
theorem dX12_isWell_49 : decode cX12_isWell 49 = .ok (.istore 4, 2) := by decide +kernel
theorem dX12_isWell_51 : decode cX12_isWell 51 = .ok (.iinc 5 1, 3) := by decide +kernel
theorem dX12_isWell_54 : decode cX12_isWell 54 = .ok (.goto (-46), 3) := by decide +kernel
theorem dX12_isWell_57 : decode cX12_isWell 57 = .ok (.iload_n 3, 1) := by decide +kernel
theorem dX12_isWell_58 : decode cX12_isWell 58 = .ok (.iload 4, 2) := by decide +kernel
theorem dX12_isWell_60 : decode cX12_isWell 60 = .ok (.iand, 1) := by decide +kernel
theorem dX12_isWell_61 : decode cX12_isWell 61 = .ok (.aload_n 0, 1) := by decide +kernel
theorem dX12_isWell_62 : decode cX12_isWell 62 = .ok (.getfield 54, 3) := by decide +kernel
theorem dX12_isWell_65 : decode cX12_isWell 65 = .ok (.iload_n 2, 1) := by decide +kernel
theorem dX12_isWell_66 : decode cX12_isWell 66 = .ok (.iaload, 1) := by decide +kernel
theorem dX12_isWell_67 : decode cX12_isWell 67 = .ok (.iconst (-1), 1) := by decide +kernel
theorem dX12_isWell_68 : decode cX12_isWell 68 = .ok (.ixor, 1) := by decide +kernel
theorem dX12_isWell_69 : decode cX12_isWell 69 = .ok (.iand, 1) := by decide +kernel
theorem dX12_isWell_70 : decode cX12_isWell 70 = .ok (.ifCond .ne 7, 3) := by decide +kernel
theorem dX12_isWell_73 : decode cX12_isWell 73 = .ok (.iconst 1, 1) := by decide +kernel
theorem dX12_isWell_74 : decode cX12_isWell 74 = .ok (.goto 4, 3) := by decide +kernel
theorem dX12_isWell_77 : decode cX12_isWell 77 = .ok (.iconst 0, 1) := by decide +kernel
theorem dX12_isWell_78 : decode cX12_isWell 78 = .ok (.ireturn, 1) := by decide +kernel
set_option maxRecDepth 20000 in
theorem ggX12_setLine_X12_has : GoodIn wsX12_setLine wsX12_has := goodIn_r _ [9] (by decide +kernel) (by decide +kernel)
set_option maxRecDepth 20000 in
theorem gX12_setLine_X12_has : GoodIn wsX12_setLine (va_wsS RX12 90 yX12_has wsX12_has) := goodIn_app (goodIn_of _ (by decide +kernel)) ggX12_setLine_X12_has
set_option maxRecDepth 20000 in
theorem ggX12_setLine_X12_isWell : GoodIn wsX12_setLine wsX12_isWell := goodIn_r _ [13, 1, 14, 6, 7, 8, 9, 15, 16, 17, 18, 19, 20, 21, 22, 23, 24, 25, 26, 27, 28, 29, 30, 31, 32, 33, 34, 35, 36, 37, 38, 39, 40, 41, 42, 43] (by decide +kernel) (by decide +kernel)
set_option maxRecDepth 20000 in
theorem gX12_setLine_X12_isWell : GoodIn wsX12_setLine (wsV RX12 194 RX12 yX12_isWell wsX12_isWell) := goodIn_app (goodIn_of _ (by decide +kernel)) ggX12_setLine_X12_isWell
theorem dX12_setLine_0 : decode cX12_setLine 0 = .ok (.iconst 1, 1) := by decide +kernel
theorem dX12_setLine_1 : decode cX12_setLine 1 = .ok (.aload_n 0, 1) := by decide +kernel
theorem dX12_setLine_2 : decode cX12_setLine 2 = .ok (.getfield 191, 3) := by decide +kernel
theorem dX12_setLine_5 : decode cX12_setLine 5 = .ok (.ishl, 1) := by decide +kernel
theorem dX12_setLine_6 : decode cX12_setLine 6 = .ok (.iconst 1, 1) := by decide +kernel
theorem dX12_setLine_7 : decode cX12_setLine 7 = .ok (.isub, 1) := by decide +kernel
theorem dX12_setLine_8 : decode cX12_setLine 8 = .ok (.istore_n 1, 1) := by decide +kernel
theorem dX12_setLine_9 : decode cX12_setLine 9 = .ok (.iload_n 1, 1) := by decide +kernel
theorem dX12_setLine_10 : decode cX12_setLine 10 = .ok (.istore_n 2, 1) := by decide +kernel
theorem dX12_setLine_11 : decode cX12_setLine 11 = .ok (.iload_n 2, 1) := by decide +kernel
theorem dX12_setLine_12 : decode cX12_setLine 12 = .ok (.ifCond .le 155, 3) := by decide +kernel
theorem dX12_setLine_15 : decode cX12_setLine 15 = .ok (.iconst 0, 1) := by decide +kernel
theorem dX12_setLine_16 : decode cX12_setLine 16 = .ok (.istore_n 3, 1) := by decide +kernel
theorem dX12_setLine_17 : decode cX12_setLine 17 = .ok (.iload_n 3, 1) := by decide +kernel
theorem dX12_setLine_18 : decode cX12_setLine 18 = .ok (.aload_n 0, 1) := by decide +kernel
theorem dX12_setLine_19 : decode cX12_setLine 19 = .ok (.getfield 191, 3) := by decide +kernel
theorem dX12_setLine_22 : decode cX12_setLine 22 = .ok (.if_icmp .ge 139, 3) := by decide +kernel
theorem dX12_setLine_25 : decode cX12_setLine 25 = .ok (.bipush 12, 2) := by decide +kernel
theorem dX12_setLine_27 : decode cX12_setLine 27 = .ok (.iload_n 2, 1) := by decide +kernel
theorem dX12_setLine_28 : decode cX12_setLine 28 = .ok (.imul, 1) := by decide +kernel
theorem dX12_setLine_29 : decode cX12_setLine 29 = .ok (.iload_n 3, 1) := by decide +kernel
theorem dX12_setLine_30 : decode cX12_setLine 30 = .ok (.iadd, 1) := by decide +kernel
theorem dX12_setLine_31 : decode cX12_setLine 31 = .ok (.istore 4, 2) := by decide +kernel
theorem dX12_setLine_33 : decode cX12_setLine 33 = .ok (.aload_n 0, 1) := by decide +kernel
theorem dX12_setLine_34 : decode cX12_setLine 34 = .ok (.getfield 61, 3) := by decide +kernel
theorem dX12_setLine_37 : decode cX12_setLine 37 = .ok (.iload 4, 2) := by decide +kernel
theorem dX12_setLine_39 : decode cX12_setLine 39 = .ok (.iconst 0, 1) := by decide +kernel
theorem dX12_setLine_40 : decode cX12_setLine 40 = .ok (.iastore, 1) := by decide +kernel
theorem dX12_setLine_41 : decode cX12_setLine 41 = .ok (.iload_n 2, 1) := by decide +kernel
theorem dX12_setLine_42 : decode cX12_setLine 42 = .ok (.iload_n 3, 1) := by decide +kernel
theorem dX12_setLine_43 : decode cX12_setLine 43 = .ok (.invokestatic 90, 3) := by decide +kernel
theorem dX12_setLine_46 : decode cX12_setLine 46 = .ok (.ifCond .eq 87, 3) := by decide +kernel
theorem dX12_setLine_49 : decode cX12_setLine 49 = .ok (.aload_n 0, 1) := by decide +kernel
theorem dX12_setLine_50 : decode cX12_setLine 50 = .ok (.iload_n 2, 1) := by decide +kernel
theorem dX12_setLine_51 : decode cX12_setLine 51 = .ok (.iload_n 3, 1) := by decide +kernel
theorem dX12_setLine_52 : decode cX12_setLine 52 = .ok (.invokevirtual 194, 3) := by decide +kernel
theorem dX12_setLine_55 : decode cX12_setLine 55 = .ok (.ifCond .eq 78, 3) := by decide +kernel
theorem dX12_setLine_58 : decode cX12_setLine 58 = .ok (.aload_n 0, 1) := by decide +kernel
theorem dX12_setLine_59 : decode cX12_setLine 59 = .ok (.getfield 61, 3) := by decide +kernel
theorem dX12_setLine_62 : decode cX12_setLine 62 = .ok (.iload 4, 2) := by decide +kernel
theorem dX12_setLine_64 : decode cX12_setLine 64 = .ok (.iload_n 2, 1) := by decide +kernel
theorem dX12_setLine_65 : decode cX12_setLine 65 = .ok (.iload_n 1, 1) := by decide +kernel
theorem dX12_setLine_66 : decode cX12_setLine 66 = .ok (.if_icmp .ne 7, 3) := by decide +kernel
theorem dX12_setLine_69 : decode cX12_setLine 69 = .ok (.iconst 1, 1) := by decide +kernel
theorem dX12_setLine_70 : decode cX12_setLine 70 = .ok (.goto 4, 3) := by decide +kernel
theorem dX12_setLine_73 : decode cX12_setLine 73 = .ok (.iconst 0, 1) := by decide +kernel
theorem dX12_setLine_74 : decode cX12_setLine 74 = .ok (.iastore, 1) := by decide +kernel
theorem dX12_setLine_75 : decode cX12_setLine 75 = .ok (.iconst 0, 1) := by decide +kernel
theorem dX12_setLine_76 : decode cX12_setLine 76 = .ok (.istore 5, 2) := by decide +kernel
theorem dX12_setLine_78 : decode cX12_setLine 78 = .ok (.iload 5, 2) := by decide +kernel
theorem dX12_setLine_80 : decode cX12_setLine 80 = .ok (.aload_n 0, 1) := by decide +kernel
theorem dX12_setLine_81 : decode cX12_setLine 81 = .ok (.getfield 191, 3) := by decide +kernel
theorem dX12_setLine_84 : decode cX12_setLine 84 = .ok (.if_icmp .ge 49, 3) := by decide +kernel
theorem dX12_setLine_87 : decode cX12_setLine 87 = .ok (.aload_n 0, 1) := by decide +kernel
theorem dX12_setLine_88 : decode cX12_setLine 88 = .ok (.getfield 61, 3) := by decide +kernel
theorem dX12_setLine_91 : decode cX12_setLine 91 = .ok (.iload 4, 2) := by decide +kernel
theorem dX12_setLine_93 : decode cX12_setLine 93 = .ok (.dup2, 1) := by decide +kernel
theorem dX12_setLine_94 : decode cX12_setLine 94 = .ok (.iaload, 1) := by decide +kernel
theorem dX12_setLine_95 : decode cX12_setLine 95 = .ok (.iload_n 2, 1) := by decide +kernel
theorem dX12_setLine_96 : decode cX12_setLine 96 = .ok (.iload 5, 2) := by decide +kernel
theorem dX12_setLine_98 : decode cX12_setLine 98 = .ok (.invokestatic 90, 3) := by decide +kernel
theorem dX12_setLine_101 : decode cX12_setLine 101 = .ok (.ifCond .eq 7, 3) := by decide +kernel
theorem dX12_setLine_104 : decode cX12_setLine 104 = .ok (.iconst 0, 1) := by decide +kernel
theorem dX12_setLine_105 : decode cX12_setLine 105 = .ok (.goto 20, 3) := by decide +kernel
theorem dX12_setLine_108 : decode cX12_setLine 108 = .ok (.aload_n 0, 1) := by decide +kernel
theorem dX12_setLine_109 : decode cX12_setLine 109 = .ok (.getfield 61, 3) := by decide +kernel
theorem dX12_setLine_112 : decode cX12_setLine 112 = .ok (.bipush 12, 2) := by decide +kernel
theorem dX12_setLine_114 : decode cX12_setLine 114 = .ok (.iload_n 2, 1) := by decide +kernel
theorem dX12_setLine_115 : decode cX12_setLine 115 = .ok (.iconst 1, 1) := by decide +kernel
theorem dX12_setLine_116 : decode cX12_setLine 116 = .ok (.iload 5, 2) := by decide +kernel
theorem dX12_setLine_118 : decode cX12_setLine 118 = .ok (.ishl, 1) := by decide +kernel
theorem dX12_setLine_119 : decode cX12_setLine 119 = .ok (.ior, 1) := by decide +kernel
theorem dX12_setLine_120 : decode cX12_setLine 120 = .ok (.imul, 1) := by decide +kernel
theorem dX12_setLine_121 : decode cX12_setLine 121 = .ok (.iload 5, 2) := by decide +kernel
theorem dX12_setLine_123 : decode cX12_setLine 123 = .ok (.iadd, 1) := by decide +kernel
theorem dX12_setLine_124 : decode cX12_setLine 124 = .ok (.iaload, 1) := by decide +kernel
theorem dX12_setLine_125 : decode cX12_setLine 125 = .ok (.iadd, 1) := by decide +kernel
theorem dX12_setLine_126 : decode cX12_setLine 126 = .ok (.iastore, 1) := by decide +kernel
theorem dX12_setLine_127 : decode cX12_setLine 127 = .ok (.iinc 5 1, 3) := by decide +kernel
theorem dX12_setLine_130 : decode cX12_setLine 130 = .ok (.goto (-52), 3) := by decide +kernel
theorem dX12_setLine_133 : decode cX12_setLine 133 = .ok (.aload_n 0, 1) := by decide +kernel
theorem dX12_setLine_134 : decode cX12_setLine 134 = .ok (.getfield 57, 3) := by decide +kernel
theorem dX12_setLine_137 : decode cX12_setLine 137 = .ok (.iload 4, 2) := by decide +kernel
theorem dX12_setLine_139 : decode cX12_setLine 139 = .ok (.aload_n 0, 1) := by decide +kernel
theorem dX12_setLine_140 : decode cX12_setLine 140 = .ok (.getfield 61, 3) := by decide +kernel
theorem dX12_setLine_143 : decode cX12_setLine 143 = .ok (.iload 4, 2) := by decide +kernel
theorem dX12_setLine_145 : decode cX12_setLine 145 = .ok (.iaload, 1) := by decide +kernel
theorem dX12_setLine_146 : decode cX12_setLine 146 = .ok (.ifCond .le 7, 3) := by decide +kernel
theorem dX12_setLine_149 : decode cX12_setLine 149 = .ok (.iconst 1, 1) := by decide +kernel
theorem dX12_setLine_150 : decode cX12_setLine 150 = .ok (.goto 4, 3) := by decide +kernel
theorem dX12_setLine_153 : decode cX12_setLine 153 = .ok (.iconst 0, 1) := by decide +kernel
theorem dX12_setLine_154 : decode cX12_setLine 154 = .ok (.bastore, 1) := by decide +kernel
theorem dX12_setLine_155 : decode cX12_setLine 155 = .ok (.iinc 3 1, 3) := by decide +kernel
theorem dX12_setLine_158 : decode cX12_setLine 158 = .ok (.goto (-141), 3) := by decide +kernel
theorem dX12_setLine_161 : decode cX12_setLine 161 = .ok (.iinc 2 (-1), 3) := by decide +kernel
theorem dX12_setLine_164 : decode cX12_setLine 164 = .ok (.goto (-153), 3) := by decide +kernel
theorem dX12_setLine_167 : decode cX12_setLine 167 = .ok (.aload_n 0, 1) := by decide +kernel
theorem dX12_setLine_168 : decode cX12_setLine 168 = .ok (.iconst 0, 1) := by decide +kernel
theorem dX12_setLine_169 : decode cX12_setLine 169 = .ok (.putfield 197, 3) := by decide +kernel
theorem dX12_setLine_172 : decode cX12_setLine 172 = .ok (.iconst 0, 1) := by decide +kernel
theorem dX12_setLine_173 : decode cX12_setLine 173 = .ok (.istore_n 2, 1) := by decide +kernel
theorem dX12_setLine_174 : decode cX12_setLine 174 = .ok (.aload_n 0, 1) := by decide +kernel
theorem dX12_setLine_175 : decode cX12_setLine 175 = .ok (.getfield 191, 3) := by decide +kernel
theorem dX12_setLine_178 : decode cX12_setLine 178 = .ok (.ifCond .le 7, 3) := by decide +kernel
theorem dX12_setLine_181 : decode cX12_setLine 181 = .ok (.iconst 1, 1) := by decide +kernel
theorem dX12_setLine_182 : decode cX12_setLine 182 = .ok (.goto 4, 3) := by decide +kernel
theorem dX12_setLine_185 : decode cX12_setLine 185 = .ok (.iconst 0, 1) := by decide +kernel
theorem dX12_setLine_186 : decode cX12_setLine 186 = .ok (.istore_n 3, 1) := by decide +kernel
theorem dX12_setLine_187 : decode cX12_setLine 187 = .ok (.iload_n 3, 1) := by decide +kernel
theorem dX12_setLine_188 : decode cX12_setLine 188 = .ok (.ifCond .eq 89, 3) := by decide +kernel
theorem dX12_setLine_191 : decode cX12_setLine 191 = .ok (.iconst 0, 1) := by decide +kernel
theorem dX12_setLine_192 : decode cX12_setLine 192 = .ok (.istore_n 3, 1) := by decide +kernel
theorem dX12_setLine_193 : decode cX12_setLine 193 = .ok (.iconst 0, 1) := by decide +kernel
theorem dX12_setLine_194 : decode cX12_setLine 194 = .ok (.istore 4, 2) := by decide +kernel
theorem dX12_setLine_196 : decode cX12_setLine 196 = .ok (.iload 4, 2) := by decide +kernel
theorem dX12_setLine_198 : decode cX12_setLine 198 = .ok (.aload_n 0, 1) := by decide +kernel
theorem dX12_setLine_199 : decode cX12_setLine 199 = .ok (.getfield 191, 3) := by decide +kernel
theorem dX12_setLine_202 : decode cX12_setLine 202 = .ok (.if_icmp .ge 72, 3) := by decide +kernel
theorem dX12_setLine_205 : decode cX12_setLine 205 = .ok (.iload_n 3, 1) := by decide +kernel
theorem dX12_setLine_206 : decode cX12_setLine 206 = .ok (.ifCond .ne 68, 3) := by decide +kernel
theorem dX12_setLine_209 : decode cX12_setLine 209 = .ok (.iload_n 2, 1) := by decide +kernel
theorem dX12_setLine_210 : decode cX12_setLine 210 = .ok (.iload 4, 2) := by decide +kernel
theorem dX12_setLine_212 : decode cX12_setLine 212 = .ok (.invokestatic 90, 3) := by decide +kernel
theorem dX12_setLine_215 : decode cX12_setLine 215 = .ok (.ifCond .ne 53, 3) := by decide +kernel
theorem dX12_setLine_218 : decode cX12_setLine 218 = .ok (.aload_n 0, 1) := by decide +kernel
theorem dX12_setLine_219 : decode cX12_setLine 219 = .ok (.getfield 57, 3) := by decide +kernel
theorem dX12_setLine_222 : decode cX12_setLine 222 = .ok (.bipush 12, 2) := by decide +kernel
theorem dX12_setLine_224 : decode cX12_setLine 224 = .ok (.iload_n 2, 1) := by decide +kernel
theorem dX12_setLine_225 : decode cX12_setLine 225 = .ok (.iconst 1, 1) := by decide +kernel
theorem dX12_setLine_226 : decode cX12_setLine 226 = .ok (.iload 4, 2) := by decide +kernel
theorem dX12_setLine_228 : decode cX12_setLine 228 = .ok (.ishl, 1) := by decide +kernel
theorem dX12_setLine_229 : decode cX12_setLine 229 = .ok (.ior, 1) := by decide +kernel
theorem dX12_setLine_230 : decode cX12_setLine 230 = .ok (.imul, 1) := by decide +kernel
theorem dX12_setLine_231 : decode cX12_setLine 231 = .ok (.iload 4, 2) := by decide +kernel
theorem dX12_setLine_233 : decode cX12_setLine 233 = .ok (.iadd, 1) := by decide +kernel
theorem dX12_setLine_234 : decode cX12_setLine 234 = .ok (.baload, 1) := by decide +kernel
theorem dX12_setLine_235 : decode cX12_setLine 235 = .ok (.ifCond .eq 33, 3) := by decide +kernel
theorem dX12_setLine_238 : decode cX12_setLine 238 = .ok (.aload_n 0, 1) := by decide +kernel
theorem dX12_setLine_239 : decode cX12_setLine 239 = .ok (.getfield 64, 3) := by decide +kernel
theorem dX12_setLine_242 : decode cX12_setLine 242 = .ok (.aload_n 0, 1) := by decide +kernel
theorem dX12_setLine_243 : decode cX12_setLine 243 = .ok (.getfield 197, 3) := by decide +kernel
theorem dX12_setLine_246 : decode cX12_setLine 246 = .ok (.iload 4, 2) := by decide +kernel
theorem dX12_setLine_248 : decode cX12_setLine 248 = .ok (.iastore, 1) := by decide +kernel
theorem dX12_setLine_249 : decode cX12_setLine 249 = .ok (.aload_n 0, 1) := by decide +kernel
theorem dX12_setLine_250 : decode cX12_setLine 250 = .ok (.dup, 1) := by decide +kernel
theorem dX12_setLine_251 : decode cX12_setLine 251 = .ok (.getfield 197, 3) := by decide +kernel
theorem dX12_setLine_254 : decode cX12_setLine 254 = .ok (.iconst 1, 1) := by decide +kernel
theorem dX12_setLine_255 : decode cX12_setLine 255 = .ok (.iadd, 1) := by decide +kernel
theorem dX12_setLine_256 : decode cX12_setLine 256 = .ok (.putfield 197, 3) := by decide +kernel
theorem dX12_setLine_259 : decode cX12_setLine 259 = .ok (.iload_n 2, 1) := by decide +kernel
theorem dX12_setLine_260 : decode cX12_setLine 260 = .ok (.iconst 1, 1) := by decide +kernel
theorem dX12_setLine_261 : decode cX12_setLine 261 = .ok (.iload 4, 2) := by decide +kernel
theorem dX12_setLine_263 : decode cX12_setLine 263 = .ok (.ishl, 1) := by decide +kernel
theorem dX12_setLine_264 : decode cX12_setLine 264 = .ok (.ior, 1) := by decide +kernel
theorem dX12_setLine_265 : decode cX12_setLine 265 = .ok (.istore_n 2, 1) := by decide +kernel
theorem dX12_setLine_266 : decode cX12_setLine 266 = .ok (.iconst 1, 1) := by decide +kernel
theorem dX12_setLine_267 : decode cX12_setLine 267 = .ok (.istore_n 3, 1) := by decide +kernel
theorem dX12_setLine_268 : decode cX12_setLine 268 = .ok (.iinc 4 1, 3) := by decide +kernel
theorem dX12_setLine_271 : decode cX12_setLine 271 = .ok (.goto (-75), 3) := by decide +kernel
theorem dX12_setLine_274 : decode cX12_setLine 274 = .ok (.goto (-87), 3) := by decide +kernel
theorem dX12_setLine_277 : decode cX12_setLine 277 = .ok (.return_, 1) := by decide +kernel
theorem dX12_lines_0 : decode cX12_lines 0 = .ok (.aload_n 0, 1) := by decide +kernel
theorem dX12_lines_1 : decode cX12_lines 1 = .ok (.getfield 191, 3) := by decide +kernel
theorem dX12_lines_4 : decode cX12_lines 4 = .ok (.ifCond .ne 7, 3) := by decide +kernel
theorem dX12_lines_7 : decode cX12_lines 7 = .ok (.iconst 1, 1) := by decide +kernel
theorem dX12_lines_8 : decode cX12_lines 8 = .ok (.goto 4, 3) := by decide +kernel
theorem dX12_lines_11 : decode cX12_lines 11 = .ok (.iconst 0, 1) := by decide +kernel
theorem dX12_lines_12 : decode cX12_lines 12 = .ok (.istore_n 1, 1) := by decide +kernel
theorem dX12_lines_13 : decode cX12_lines 13 = .ok (.iconst 0, 1) := by decide +kernel
theorem dX12_lines_14 : decode cX12_lines 14 = .ok (.istore_n 2, 1) := by decide +kernel
theorem dX12_lines_15 : decode cX12_lines 15 = .ok (.iload_n 2, 1) := by decide +kernel
theorem dX12_lines_16 : decode cX12_lines 16 = .ok (.aload_n 0, 1) := by decide +kernel
theorem dX12_lines_17 : decode cX12_lines 17 = .ok (.getfield 191, 3) := by decide +kernel
theorem dX12_lines_20 : decode cX12_lines 20 = .ok (.if_icmp .ge 25, 3) := by decide +kernel
theorem dX12_lines_23 : decode cX12_lines 23 = .ok (.iload_n 1, 1) := by decide +kernel
theorem dX12_lines_24 : decode cX12_lines 24 = .ok (.aload_n 0, 1) := by decide +kernel
theorem dX12_lines_25 : decode cX12_lines 25 = .ok (.getfield 61, 3) := by decide +kernel
theorem dX12_lines_28 : decode cX12_lines 28 = .ok (.bipush 12, 2) := by decide +kernel
theorem dX12_lines_30 : decode cX12_lines 30 = .ok (.iconst 1, 1) := by decide +kernel
theorem dX12_lines_31 : decode cX12_lines 31 = .ok (.iload_n 2, 1) := by decide +kernel
theorem dX12_lines_32 : decode cX12_lines 32 = .ok (.ishl, 1) := by decide +kernel
theorem dX12_lines_33 : decode cX12_lines 33 = .ok (.imul, 1) := by decide +kernel
theorem dX12_lines_34 : decode cX12_lines 34 = .ok (.iload_n 2, 1) := by decide +kernel
theorem dX12_lines_35 : decode cX12_lines 35 = .ok (.iadd, 1) := by decide +kernel
theorem dX12_lines_36 : decode cX12_lines 36 = .ok (.iaload, 1) := by decide +kernel
theorem dX12_lines_37 : decode cX12_lines 37 = .ok (.iadd, 1) := by decide +kernel
theorem dX12_lines_38 : decode cX12_lines 38 = .ok (.istore_n 1, 1) := by decide +kernel
theorem dX12_lines_39 : decode cX12_lines 39 = .ok (.iinc 2 1, 3) := by decide +kernel
theorem dX12_lines_42 : decode cX12_lines 42 = .ok (.goto (-27), 3) := by decide +kernel
theorem dX12_lines_45 : decode cX12_lines 45 = .ok (.iload_n 1, 1) := by decide +kernel
theorem dX12_lines_46 : decode cX12_lines 46 = .ok (.ireturn, 1) := by decide +kernel
set_option maxRecDepth 20000 in
theorem ggX12_hasSpans_X12_setCliques : GoodIn wsX12_hasSpans wsX12_setCliques := goodIn_r _ [10, 3, 5, 11, 12, 13, 9, 14, 15, 16, 17, 18, 19, 20, 21, 22, 23, 24, 25, 26, 27, 43, 44, 45, 46, 47, 48, 49, 50, 51, 52, 53, 54, 55, 56, 57, 58, 59, 60, 61, 62, 63, 64, 65, 66, 67, 68, 69, 70, 71] (by decide +kernel) (by decide +kernel)
set_option maxRecDepth 20000 in
theorem gX12_hasSpans_X12_setCliques : GoodIn wsX12_hasSpans (wsV RX12 170 RX12 yX12_setCliques wsX12_setCliques) := goodIn_app (goodIn_of _ (by decide +kernel)) ggX12_hasSpans_X12_setCliques
set_option maxRecDepth 20000 in
theorem ggX12_hasSpans_X12_isSound : GoodIn wsX12_hasSpans wsX12_isSound := goodIn_r _ [31, 15, 20, 11, 12, 13, 9, 14, 25, 26, 27, 21, 22, 23, 24, 43, 44, 45, 46, 47, 48, 49, 50, 51, 52, 53, 54, 55, 56, 57, 58, 59, 60, 61, 62, 63, 64, 65, 66, 67, 68, 69, 70, 71] (by decide +kernel) (by decide +kernel)
set_option maxRecDepth 20000 in
theorem gX12_hasSpans_X12_isSound : GoodIn wsX12_hasSpans (wsV RX12 115 RX12 yX12_isSound wsX12_isSound) := goodIn_app (goodIn_of _ (by decide +kernel)) ggX12_hasSpans_X12_isSound
set_option maxRecDepth 20000 in
theorem ggX12_hasSpans_X12_setLine : GoodIn wsX12_hasSpans wsX12_setLine := goodIn_r _ [35, 1, 36, 37, 2, 38, 25, 26, 9, 27, 39, 40, 41, 42, 4, 43, 44, 45, 46, 47, 48, 49, 50, 51, 52, 53, 54, 55, 56, 57, 58, 59, 60, 61, 62, 63, 64, 65, 66, 67, 68, 69, 70, 71] (by decide +kernel) (by decide +kernel)
set_option maxRecDepth 20000 in
theorem gX12_hasSpans_X12_setLine : GoodIn wsX12_hasSpans (wsV RX12 200 RX12 yX12_setLine wsX12_setLine) := goodIn_app (goodIn_of _ (by decide +kernel)) ggX12_hasSpans_X12_setLine
theorem dX12_hasSpans_0 : decode cX12_hasSpans 0 = .ok (.aload_n 0, 1) := by decide +kernel
theorem dX12_hasSpans_1 : decode cX12_hasSpans 1 = .ok (.invokevirtual 170, 3) := by decide +kernel
theorem dX12_hasSpans_4 : decode cX12_hasSpans 4 = .ok (.aload_n 0, 1) := by decide +kernel
theorem dX12_hasSpans_5 : decode cX12_hasSpans 5 = .ok (.iconst 0, 1) := by decide +kernel
theorem dX12_hasSpans_6 : decode cX12_hasSpans 6 = .ok (.putfield 191, 3) := by decide +kernel
theorem dX12_hasSpans_9 : decode cX12_hasSpans 9 = .ok (.aload_n 0, 1) := by decide +kernel
theorem dX12_hasSpans_10 : decode cX12_hasSpans 10 = .ok (.iconst 0, 1) := by decide +kernel
theorem dX12_hasSpans_11 : decode cX12_hasSpans 11 = .ok (.putfield 197, 3) := by decide +kernel
theorem dX12_hasSpans_14 : decode cX12_hasSpans 14 = .ok (.aload_n 0, 1) := by decide +kernel
theorem dX12_hasSpans_15 : decode cX12_hasSpans 15 = .ok (.invokevirtual 115, 3) := by decide +kernel
theorem dX12_hasSpans_18 : decode cX12_hasSpans 18 = .ok (.ifCond .ne 5, 3) := by decide +kernel
theorem dX12_hasSpans_21 : decode cX12_hasSpans 21 = .ok (.iconst 0, 1) := by decide +kernel
theorem dX12_hasSpans_22 : decode cX12_hasSpans 22 = .ok (.ireturn, 1) := by decide +kernel
theorem dX12_hasSpans_23 : decode cX12_hasSpans 23 = .ok (.iconst 0, 1) := by decide +kernel
theorem dX12_hasSpans_24 : decode cX12_hasSpans 24 = .ok (.istore_n 1, 1) := by decide +kernel
theorem dX12_hasSpans_25 : decode cX12_hasSpans 25 = .ok (.iload_n 1, 1) := by decide +kernel
theorem dX12_hasSpans_26 : decode cX12_hasSpans 26 = .ok (.aload_n 0, 1) := by decide +kernel
theorem dX12_hasSpans_27 : decode cX12_hasSpans 27 = .ok (.getfield 164, 3) := by decide +kernel
theorem dX12_hasSpans_30 : decode cX12_hasSpans 30 = .ok (.if_icmp .ge 21, 3) := by decide +kernel
theorem dX12_hasSpans_33 : decode cX12_hasSpans 33 = .ok (.aload_n 0, 1) := by decide +kernel
theorem dX12_hasSpans_34 : decode cX12_hasSpans 34 = .ok (.getfield 54, 3) := by decide +kernel
theorem dX12_hasSpans_37 : decode cX12_hasSpans 37 = .ok (.iload_n 1, 1) := by decide +kernel
theorem dX12_hasSpans_38 : decode cX12_hasSpans 38 = .ok (.aload_n 0, 1) := by decide +kernel
theorem dX12_hasSpans_39 : decode cX12_hasSpans 39 = .ok (.getfield 45, 3) := by decide +kernel
theorem dX12_hasSpans_42 : decode cX12_hasSpans 42 = .ok (.iload_n 1, 1) := by decide +kernel
theorem dX12_hasSpans_43 : decode cX12_hasSpans 43 = .ok (.iaload, 1) := by decide +kernel
theorem dX12_hasSpans_44 : decode cX12_hasSpans 44 = .ok (.iastore, 1) := by decide +kernel
theorem dX12_hasSpans_45 : decode cX12_hasSpans 45 = .ok (.iinc 1 1, 3) := by decide +kernel
theorem dX12_hasSpans_48 : decode cX12_hasSpans 48 = .ok (.goto (-23), 3) := by decide +kernel
theorem dX12_hasSpans_51 : decode cX12_hasSpans 51 = .ok (.aload_n 0, 1) := by decide +kernel
theorem dX12_hasSpans_52 : decode cX12_hasSpans 52 = .ok (.aload_n 0, 1) := by decide +kernel
theorem dX12_hasSpans_53 : decode cX12_hasSpans 53 = .ok (.getfield 164, 3) := by decide +kernel
theorem dX12_hasSpans_56 : decode cX12_hasSpans 56 = .ok (.putfield 191, 3) := by decide +kernel
theorem dX12_hasSpans_59 : decode cX12_hasSpans 59 = .ok (.aload_n 0, 1) := by decide +kernel
theorem dX12_hasSpans_60 : decode cX12_hasSpans 60 = .ok (.invokevirtual 200, 3) := by decide +kernel
theorem dX12_hasSpans_63 : decode cX12_hasSpans 63 = .ok (.aload_n 0, 1) := by decide +kernel
theorem dX12_hasSpans_64 : decode cX12_hasSpans 64 = .ok (.getfield 197, 3) := by decide +kernel
theorem dX12_hasSpans_67 : decode cX12_hasSpans 67 = .ok (.aload_n 0, 1) := by decide +kernel
theorem dX12_hasSpans_68 : decode cX12_hasSpans 68 = .ok (.getfield 164, 3) := by decide +kernel
theorem dX12_hasSpans_71 : decode cX12_hasSpans 71 = .ok (.if_icmp .ne 7, 3) := by decide +kernel
theorem dX12_hasSpans_74 : decode cX12_hasSpans 74 = .ok (.iconst 1, 1) := by decide +kernel
theorem dX12_hasSpans_75 : decode cX12_hasSpans 75 = .ok (.goto 4, 3) := by decide +kernel
theorem dX12_hasSpans_78 : decode cX12_hasSpans 78 = .ok (.iconst 0, 1) := by decide +kernel
theorem dX12_hasSpans_79 : decode cX12_hasSpans 79 = .ok (.ireturn, 1) := by decide +kernel
set_option maxRecDepth 20000 in
theorem ggX12_line_X12_hasSpans : GoodIn wsX12_line wsX12_hasSpans := goodIn_r _ [7, 8, 1, 9, 10, 11, 12, 13, 14, 6, 15, 16, 17, 18, 19, 20, 21, 22, 23, 24, 25, 26, 27, 28, 29, 30, 31, 32, 33, 34, 35, 36, 37, 38, 39, 40, 41, 42, 2, 43, 44, 45, 46, 50, 51, 52, 53, 54, 55, 56, 57, 58, 59, 60, 61, 62, 63, 64, 65, 66, 67, 68, 69, 70, 71, 72, 73, 74, 75, 76, 77, 78] (by decide +kernel) (by decide +kernel)
set_option maxRecDepth 20000 in
theorem gX12_line_X12_hasSpans : GoodIn wsX12_line (wsV RX12 203 RX12 yX12_hasSpans wsX12_hasSpans) := goodIn_app (goodIn_of _ (by decide +kernel)) ggX12_line_X12_hasSpans
set_option maxRecDepth 20000 in
theorem ggX12_line_X12_in : GoodIn wsX12_line wsX12_in := goodIn_r _ [49] (by decide +kernel) (by decide +kernel)
set_option maxRecDepth 20000 in
theorem gX12_line_X12_in : GoodIn wsX12_line (va_wsS RX12 76 yX12_in wsX12_in) := goodIn_app (goodIn_of _ (by decide +kernel)) ggX12_line_X12_in
theorem dX12_line_0 : decode cX12_line 0 = .ok (.aload_n 0, 1) := by decide +kernel
theorem dX12_line_1 : decode cX12_line 1 = .ok (.invokevirtual 203, 3) := by decide +kernel
theorem dX12_line_4 : decode cX12_line 4 = .ok (.ifCond .eq 26, 3) := by decide +kernel
theorem dX12_line_7 : decode cX12_line 7 = .ok (.iload_n 1, 1) := by decide +kernel
theorem dX12_line_8 : decode cX12_line 8 = .ok (.iconst 0, 1) := by decide +kernel
theorem dX12_line_9 : decode cX12_line 9 = .ok (.aload_n 0, 1) := by decide +kernel
theorem dX12_line_10 : decode cX12_line 10 = .ok (.getfield 197, 3) := by decide +kernel
theorem dX12_line_13 : decode cX12_line 13 = .ok (.iconst 1, 1) := by decide +kernel
theorem dX12_line_14 : decode cX12_line 14 = .ok (.isub, 1) := by decide +kernel
theorem dX12_line_15 : decode cX12_line 15 = .ok (.invokestatic 76, 3) := by decide +kernel
theorem dX12_line_18 : decode cX12_line 18 = .ok (.ifCond .eq 12, 3) := by decide +kernel
theorem dX12_line_21 : decode cX12_line 21 = .ok (.aload_n 0, 1) := by decide +kernel
theorem dX12_line_22 : decode cX12_line 22 = .ok (.getfield 64, 3) := by decide +kernel
theorem dX12_line_25 : decode cX12_line 25 = .ok (.iload_n 1, 1) := by decide +kernel
theorem dX12_line_26 : decode cX12_line 26 = .ok (.iaload, 1) := by decide +kernel
theorem dX12_line_27 : decode cX12_line 27 = .ok (.goto 5, 3) := by decide +kernel
theorem dX12_line_30 : decode cX12_line 30 = .ok (.bipush (-9), 2) := by decide +kernel
theorem dX12_line_32 : decode cX12_line 32 = .ok (.ireturn, 1) := by decide +kernel
set_option maxRecDepth 20000 in
theorem ggX12_span_X12_isNode : GoodIn wsX12_span wsX12_isNode := goodIn_r _ [8, 9, 10, 11, 7, 12, 54, 55, 56, 57, 58, 59, 60, 61, 62, 63, 64, 65, 66, 67, 68, 69, 70, 71, 72, 73, 74, 75, 76, 77, 78, 79, 80, 81, 82] (by decide +kernel) (by decide +kernel)
set_option maxRecDepth 20000 in
theorem gX12_span_X12_isNode : GoodIn wsX12_span (wsV RX12 86 RX12 yX12_isNode wsX12_isNode) := goodIn_app (goodIn_of _ (by decide +kernel)) ggX12_span_X12_isNode
set_option maxRecDepth 20000 in
theorem ggX12_span_X12_hasSpans : GoodIn wsX12_span wsX12_hasSpans := goodIn_r _ [16, 17, 1, 18, 19, 2, 20, 21, 22, 7, 23, 24, 25, 26, 27, 9, 28, 29, 30, 31, 32, 33, 34, 35, 36, 37, 38, 39, 40, 41, 42, 43, 44, 45, 46, 47, 48, 49, 3, 50, 51, 52, 53, 54, 55, 56, 57, 58, 59, 60, 61, 62, 63, 64, 65, 66, 67, 68, 69, 70, 71, 72, 73, 74, 75, 76, 77, 78, 79, 80, 81, 82] (by decide +kernel) (by decide +kernel)
set_option maxRecDepth 20000 in
theorem gX12_span_X12_hasSpans : GoodIn wsX12_span (wsV RX12 203 RX12 yX12_hasSpans wsX12_hasSpans) := goodIn_app (goodIn_of _ (by decide +kernel)) ggX12_span_X12_hasSpans
set_option maxRecDepth 20000 in
theorem ggX12_span_X12_has : GoodIn wsX12_span wsX12_has := goodIn_r _ [39] (by decide +kernel) (by decide +kernel)
set_option maxRecDepth 20000 in
theorem gX12_span_X12_has : GoodIn wsX12_span (va_wsS RX12 90 yX12_has wsX12_has) := goodIn_app (goodIn_of _ (by decide +kernel)) ggX12_span_X12_has
theorem dX12_span_0 : decode cX12_span 0 = .ok (.aload_n 0, 1) := by decide +kernel
theorem dX12_span_1 : decode cX12_span 1 = .ok (.iload_n 1, 1) := by decide +kernel
theorem dX12_span_2 : decode cX12_span 2 = .ok (.invokevirtual 86, 3) := by decide +kernel
theorem dX12_span_5 : decode cX12_span 5 = .ok (.ifCond .ne 5, 3) := by decide +kernel
theorem dX12_span_8 : decode cX12_span 8 = .ok (.iconst (-1), 1) := by decide +kernel
theorem dX12_span_9 : decode cX12_span 9 = .ok (.ireturn, 1) := by decide +kernel
theorem dX12_span_10 : decode cX12_span 10 = .ok (.aload_n 0, 1) := by decide +kernel
theorem dX12_span_11 : decode cX12_span 11 = .ok (.invokevirtual 203, 3) := by decide +kernel
theorem dX12_span_14 : decode cX12_span 14 = .ok (.ifCond .ne 6, 3) := by decide +kernel
theorem dX12_span_17 : decode cX12_span 17 = .ok (.bipush (-4), 2) := by decide +kernel
theorem dX12_span_19 : decode cX12_span 19 = .ok (.ireturn, 1) := by decide +kernel
theorem dX12_span_20 : decode cX12_span 20 = .ok (.bipush (-9), 2) := by decide +kernel
theorem dX12_span_22 : decode cX12_span 22 = .ok (.istore_n 3, 1) := by decide +kernel
theorem dX12_span_23 : decode cX12_span 23 = .ok (.bipush (-9), 2) := by decide +kernel
theorem dX12_span_25 : decode cX12_span 25 = .ok (.istore 4, 2) := by decide +kernel
theorem dX12_span_27 : decode cX12_span 27 = .ok (.iconst 0, 1) := by decide +kernel
theorem dX12_span_28 : decode cX12_span 28 = .ok (.istore 5, 2) := by decide +kernel
theorem dX12_span_30 : decode cX12_span 30 = .ok (.iload 5, 2) := by decide +kernel
theorem dX12_span_32 : decode cX12_span 32 = .ok (.aload_n 0, 1) := by decide +kernel
theorem dX12_span_33 : decode cX12_span 33 = .ok (.getfield 197, 3) := by decide +kernel
theorem dX12_span_36 : decode cX12_span 36 = .ok (.if_icmp .ge 57, 3) := by decide +kernel
theorem dX12_span_39 : decode cX12_span 39 = .ok (.aload_n 0, 1) := by decide +kernel
theorem dX12_span_40 : decode cX12_span 40 = .ok (.getfield 45, 3) := by decide +kernel
theorem dX12_span_43 : decode cX12_span 43 = .ok (.aload_n 0, 1) := by decide +kernel
theorem dX12_span_44 : decode cX12_span 44 = .ok (.getfield 64, 3) := by decide +kernel
theorem dX12_span_47 : decode cX12_span 47 = .ok (.iload 5, 2) := by decide +kernel
theorem dX12_span_49 : decode cX12_span 49 = .ok (.iaload, 1) := by decide +kernel
theorem dX12_span_50 : decode cX12_span 50 = .ok (.iaload, 1) := by decide +kernel
theorem dX12_span_51 : decode cX12_span 51 = .ok (.iload_n 1, 1) := by decide +kernel
theorem dX12_span_52 : decode cX12_span 52 = .ok (.invokestatic 90, 3) := by decide +kernel
theorem dX12_span_55 : decode cX12_span 55 = .ok (.istore 6, 2) := by decide +kernel
theorem dX12_span_57 : decode cX12_span 57 = .ok (.iload 6, 2) := by decide +kernel
theorem dX12_span_59 : decode cX12_span 59 = .ok (.ifCond .eq 12, 3) := by decide +kernel
theorem dX12_span_62 : decode cX12_span 62 = .ok (.iload_n 3, 1) := by decide +kernel
theorem dX12_span_63 : decode cX12_span 63 = .ok (.ifCond .ge 8, 3) := by decide +kernel
theorem dX12_span_66 : decode cX12_span 66 = .ok (.iload 5, 2) := by decide +kernel
theorem dX12_span_68 : decode cX12_span 68 = .ok (.goto 4, 3) := by decide +kernel
theorem dX12_span_71 : decode cX12_span 71 = .ok (.iload_n 3, 1) := by decide +kernel
theorem dX12_span_72 : decode cX12_span 72 = .ok (.istore_n 3, 1) := by decide +kernel
theorem dX12_span_73 : decode cX12_span 73 = .ok (.iload 6, 2) := by decide +kernel
theorem dX12_span_75 : decode cX12_span 75 = .ok (.ifCond .eq 8, 3) := by decide +kernel
theorem dX12_span_78 : decode cX12_span 78 = .ok (.iload 5, 2) := by decide +kernel
theorem dX12_span_80 : decode cX12_span 80 = .ok (.goto 5, 3) := by decide +kernel
theorem dX12_span_83 : decode cX12_span 83 = .ok (.iload 4, 2) := by decide +kernel
theorem dX12_span_85 : decode cX12_span 85 = .ok (.istore 4, 2) := by decide +kernel
theorem dX12_span_87 : decode cX12_span 87 = .ok (.iinc 5 1, 3) := by decide +kernel
theorem dX12_span_90 : decode cX12_span 90 = .ok (.goto (-60), 3) := by decide +kernel
theorem dX12_span_93 : decode cX12_span 93 = .ok (.iload_n 2, 1) := by decide +kernel
theorem dX12_span_94 : decode cX12_span 94 = .ok (.ifCond .eq 8, 3) := by decide +kernel
theorem dX12_span_97 : decode cX12_span 97 = .ok (.iload 4, 2) := by decide +kernel
theorem dX12_span_99 : decode cX12_span 99 = .ok (.goto 4, 3) := by decide +kernel
theorem dX12_span_102 : decode cX12_span 102 = .ok (.iload_n 3, 1) := by decide +kernel
theorem dX12_span_103 : decode cX12_span 103 = .ok (.ireturn, 1) := by decide +kernel
set_option maxRecDepth 20000 in
theorem ggX12_isFar_X12_isApart : GoodIn wsX12_isFar wsX12_isApart := goodIn_r _ [6, 7, 1, 8, 9, 5, 10, 15, 16, 17, 18, 19, 20, 21, 22, 23, 24, 25, 26, 27, 28, 29, 30, 31, 32, 33, 34, 35, 36, 37, 38, 39, 40, 41, 42, 43] (by decide +kernel) (by decide +kernel)
set_option maxRecDepth 20000 in
theorem gX12_isFar_X12_isApart : GoodIn wsX12_isFar (wsV RX12 173 RX12 yX12_isApart wsX12_isApart) := goodIn_app (goodIn_of _ (by decide +kernel)) ggX12_isFar_X12_isApart
set_option maxRecDepth 20000 in
theorem ggX12_isFar_X12_reach : GoodIn wsX12_isFar wsX12_reach := goodIn_r _ [14, 7, 1, 8, 9, 5, 10, 15, 16, 17, 18, 19, 20, 21, 22, 23, 24, 25, 26, 27, 28, 29, 30, 31, 32, 33, 34, 35, 36, 37, 38, 39, 40, 41, 42, 43] (by decide +kernel) (by decide +kernel)
set_option maxRecDepth 20000 in
theorem gX12_isFar_X12_reach : GoodIn wsX12_isFar (wsV RX12 182 RX12 yX12_reach wsX12_reach) := goodIn_app (goodIn_of _ (by decide +kernel)) ggX12_isFar_X12_reach
set_option maxRecDepth 20000 in
theorem ggX12_isFar_X12_has : GoodIn wsX12_isFar wsX12_has := goodIn_r _ [10] (by decide +kernel) (by decide +kernel)
set_option maxRecDepth 20000 in
theorem gX12_isFar_X12_has : GoodIn wsX12_isFar (va_wsS RX12 90 yX12_has wsX12_has) := goodIn_app (goodIn_of _ (by decide +kernel)) ggX12_isFar_X12_has
theorem dX12_isFar_0 : decode cX12_isFar 0 = .ok (.iconst 1, 1) := by decide +kernel
theorem dX12_isFar_1 : decode cX12_isFar 1 = .ok (.iload_n 1, 1) := by decide +kernel
theorem dX12_isFar_2 : decode cX12_isFar 2 = .ok (.ishl, 1) := by decide +kernel
theorem dX12_isFar_3 : decode cX12_isFar 3 = .ok (.iconst 1, 1) := by decide +kernel
theorem dX12_isFar_4 : decode cX12_isFar 4 = .ok (.iload_n 2, 1) := by decide +kernel
theorem dX12_isFar_5 : decode cX12_isFar 5 = .ok (.ishl, 1) := by decide +kernel
theorem dX12_isFar_6 : decode cX12_isFar 6 = .ok (.ior, 1) := by decide +kernel
theorem dX12_isFar_7 : decode cX12_isFar 7 = .ok (.iconst 1, 1) := by decide +kernel
theorem dX12_isFar_8 : decode cX12_isFar 8 = .ok (.iload_n 3, 1) := by decide +kernel
theorem dX12_isFar_9 : decode cX12_isFar 9 = .ok (.ishl, 1) := by decide +kernel
theorem dX12_isFar_10 : decode cX12_isFar 10 = .ok (.ior, 1) := by decide +kernel
theorem dX12_isFar_11 : decode cX12_isFar 11 = .ok (.istore 4, 2) := by decide +kernel
theorem dX12_isFar_13 : decode cX12_isFar 13 = .ok (.aload_n 0, 1) := by decide +kernel
theorem dX12_isFar_14 : decode cX12_isFar 14 = .ok (.iload 4, 2) := by decide +kernel
theorem dX12_isFar_16 : decode cX12_isFar 16 = .ok (.invokevirtual 173, 3) := by decide +kernel
theorem dX12_isFar_19 : decode cX12_isFar 19 = .ok (.ifCond .eq 73, 3) := by decide +kernel
theorem dX12_isFar_22 : decode cX12_isFar 22 = .ok (.aload_n 0, 1) := by decide +kernel
theorem dX12_isFar_23 : decode cX12_isFar 23 = .ok (.iload_n 1, 1) := by decide +kernel
theorem dX12_isFar_24 : decode cX12_isFar 24 = .ok (.aload_n 0, 1) := by decide +kernel
theorem dX12_isFar_25 : decode cX12_isFar 25 = .ok (.getfield 13, 3) := by decide +kernel
theorem dX12_isFar_28 : decode cX12_isFar 28 = .ok (.iload_n 3, 1) := by decide +kernel
theorem dX12_isFar_29 : decode cX12_isFar 29 = .ok (.iaload, 1) := by decide +kernel
theorem dX12_isFar_30 : decode cX12_isFar 30 = .ok (.iconst 1, 1) := by decide +kernel
theorem dX12_isFar_31 : decode cX12_isFar 31 = .ok (.iload_n 3, 1) := by decide +kernel
theorem dX12_isFar_32 : decode cX12_isFar 32 = .ok (.ishl, 1) := by decide +kernel
theorem dX12_isFar_33 : decode cX12_isFar 33 = .ok (.ior, 1) := by decide +kernel
theorem dX12_isFar_34 : decode cX12_isFar 34 = .ok (.invokevirtual 182, 3) := by decide +kernel
theorem dX12_isFar_37 : decode cX12_isFar 37 = .ok (.iload_n 2, 1) := by decide +kernel
theorem dX12_isFar_38 : decode cX12_isFar 38 = .ok (.invokestatic 90, 3) := by decide +kernel
theorem dX12_isFar_41 : decode cX12_isFar 41 = .ok (.ifCond .eq 51, 3) := by decide +kernel
theorem dX12_isFar_44 : decode cX12_isFar 44 = .ok (.aload_n 0, 1) := by decide +kernel
theorem dX12_isFar_45 : decode cX12_isFar 45 = .ok (.iload_n 1, 1) := by decide +kernel
theorem dX12_isFar_46 : decode cX12_isFar 46 = .ok (.aload_n 0, 1) := by decide +kernel
theorem dX12_isFar_47 : decode cX12_isFar 47 = .ok (.getfield 13, 3) := by decide +kernel
theorem dX12_isFar_50 : decode cX12_isFar 50 = .ok (.iload_n 2, 1) := by decide +kernel
theorem dX12_isFar_51 : decode cX12_isFar 51 = .ok (.iaload, 1) := by decide +kernel
theorem dX12_isFar_52 : decode cX12_isFar 52 = .ok (.iconst 1, 1) := by decide +kernel
theorem dX12_isFar_53 : decode cX12_isFar 53 = .ok (.iload_n 2, 1) := by decide +kernel
theorem dX12_isFar_54 : decode cX12_isFar 54 = .ok (.ishl, 1) := by decide +kernel
theorem dX12_isFar_55 : decode cX12_isFar 55 = .ok (.ior, 1) := by decide +kernel
theorem dX12_isFar_56 : decode cX12_isFar 56 = .ok (.invokevirtual 182, 3) := by decide +kernel
theorem dX12_isFar_59 : decode cX12_isFar 59 = .ok (.iload_n 3, 1) := by decide +kernel
theorem dX12_isFar_60 : decode cX12_isFar 60 = .ok (.invokestatic 90, 3) := by decide +kernel
theorem dX12_isFar_63 : decode cX12_isFar 63 = .ok (.ifCond .eq 29, 3) := by decide +kernel
theorem dX12_isFar_66 : decode cX12_isFar 66 = .ok (.aload_n 0, 1) := by decide +kernel
theorem dX12_isFar_67 : decode cX12_isFar 67 = .ok (.iload_n 2, 1) := by decide +kernel
theorem dX12_isFar_68 : decode cX12_isFar 68 = .ok (.aload_n 0, 1) := by decide +kernel
theorem dX12_isFar_69 : decode cX12_isFar 69 = .ok (.getfield 13, 3) := by decide +kernel
theorem dX12_isFar_72 : decode cX12_isFar 72 = .ok (.iload_n 1, 1) := by decide +kernel
theorem dX12_isFar_73 : decode cX12_isFar 73 = .ok (.iaload, 1) := by decide +kernel
theorem dX12_isFar_74 : decode cX12_isFar 74 = .ok (.iconst 1, 1) := by decide +kernel
theorem dX12_isFar_75 : decode cX12_isFar 75 = .ok (.iload_n 1, 1) := by decide +kernel
theorem dX12_isFar_76 : decode cX12_isFar 76 = .ok (.ishl, 1) := by decide +kernel
theorem dX12_isFar_77 : decode cX12_isFar 77 = .ok (.ior, 1) := by decide +kernel
theorem dX12_isFar_78 : decode cX12_isFar 78 = .ok (.invokevirtual 182, 3) := by decide +kernel
theorem dX12_isFar_81 : decode cX12_isFar 81 = .ok (.iload_n 3, 1) := by decide +kernel
theorem dX12_isFar_82 : decode cX12_isFar 82 = .ok (.invokestatic 90, 3) := by decide +kernel
theorem dX12_isFar_85 : decode cX12_isFar 85 = .ok (.ifCond .eq 7, 3) := by decide +kernel
theorem dX12_isFar_88 : decode cX12_isFar 88 = .ok (.iconst 1, 1) := by decide +kernel
theorem dX12_isFar_89 : decode cX12_isFar 89 = .ok (.goto 4, 3) := by decide +kernel
theorem dX12_isFar_92 : decode cX12_isFar 92 = .ok (.iconst 0, 1) := by decide +kernel
theorem dX12_isFar_93 : decode cX12_isFar 93 = .ok (.ireturn, 1) := by decide +kernel
set_option maxRecDepth 20000 in
theorem ggX12_far_X12_isFar : GoodIn wsX12_far wsX12_isFar := goodIn_r _ [6, 7, 8, 9, 10, 5, 11, 1, 12, 13, 14, 15, 16, 17, 18, 19, 20, 21, 22, 23, 24, 25, 26, 27, 28, 29, 30, 31, 32, 33, 34, 35, 36, 37, 38, 39, 40, 41, 42, 43, 44, 45, 46, 47] (by decide +kernel) (by decide +kernel)
set_option maxRecDepth 20000 in
theorem gX12_far_X12_isFar : GoodIn wsX12_far (wsV RX12 206 RX12 yX12_isFar wsX12_isFar) := goodIn_app (goodIn_of _ (by decide +kernel)) ggX12_far_X12_isFar
theorem dX12_far_0 : decode cX12_far 0 = .ok (.iconst 0, 1) := by decide +kernel
theorem dX12_far_1 : decode cX12_far 1 = .ok (.istore_n 2, 1) := by decide +kernel
theorem dX12_far_2 : decode cX12_far 2 = .ok (.iload_n 2, 1) := by decide +kernel
theorem dX12_far_3 : decode cX12_far 3 = .ok (.aload_n 0, 1) := by decide +kernel
theorem dX12_far_4 : decode cX12_far 4 = .ok (.getfield 73, 3) := by decide +kernel
theorem dX12_far_7 : decode cX12_far 7 = .ok (.if_icmp .ge 88, 3) := by decide +kernel
theorem dX12_far_10 : decode cX12_far 10 = .ok (.iload_n 2, 1) := by decide +kernel
theorem dX12_far_11 : decode cX12_far 11 = .ok (.iconst 1, 1) := by decide +kernel
theorem dX12_far_12 : decode cX12_far 12 = .ok (.iadd, 1) := by decide +kernel
theorem dX12_far_13 : decode cX12_far 13 = .ok (.istore_n 3, 1) := by decide +kernel
theorem dX12_far_14 : decode cX12_far 14 = .ok (.iload_n 3, 1) := by decide +kernel
theorem dX12_far_15 : decode cX12_far 15 = .ok (.aload_n 0, 1) := by decide +kernel
theorem dX12_far_16 : decode cX12_far 16 = .ok (.getfield 73, 3) := by decide +kernel
theorem dX12_far_19 : decode cX12_far 19 = .ok (.if_icmp .ge 70, 3) := by decide +kernel
theorem dX12_far_22 : decode cX12_far 22 = .ok (.iload_n 3, 1) := by decide +kernel
theorem dX12_far_23 : decode cX12_far 23 = .ok (.iconst 1, 1) := by decide +kernel
theorem dX12_far_24 : decode cX12_far 24 = .ok (.iadd, 1) := by decide +kernel
theorem dX12_far_25 : decode cX12_far 25 = .ok (.istore 4, 2) := by decide +kernel
theorem dX12_far_27 : decode cX12_far 27 = .ok (.iload 4, 2) := by decide +kernel
theorem dX12_far_29 : decode cX12_far 29 = .ok (.aload_n 0, 1) := by decide +kernel
theorem dX12_far_30 : decode cX12_far 30 = .ok (.getfield 73, 3) := by decide +kernel
theorem dX12_far_33 : decode cX12_far 33 = .ok (.if_icmp .ge 50, 3) := by decide +kernel
theorem dX12_far_36 : decode cX12_far 36 = .ok (.aload_n 0, 1) := by decide +kernel
theorem dX12_far_37 : decode cX12_far 37 = .ok (.iload_n 2, 1) := by decide +kernel
theorem dX12_far_38 : decode cX12_far 38 = .ok (.iload_n 3, 1) := by decide +kernel
theorem dX12_far_39 : decode cX12_far 39 = .ok (.iload 4, 2) := by decide +kernel
theorem dX12_far_41 : decode cX12_far 41 = .ok (.invokevirtual 206, 3) := by decide +kernel
theorem dX12_far_44 : decode cX12_far 44 = .ok (.ifCond .eq 33, 3) := by decide +kernel
theorem dX12_far_47 : decode cX12_far 47 = .ok (.iload_n 1, 1) := by decide +kernel
theorem dX12_far_48 : decode cX12_far 48 = .ok (.ifCond .ne 7, 3) := by decide +kernel
theorem dX12_far_51 : decode cX12_far 51 = .ok (.iload_n 2, 1) := by decide +kernel
theorem dX12_far_52 : decode cX12_far 52 = .ok (.goto 24, 3) := by decide +kernel
theorem dX12_far_55 : decode cX12_far 55 = .ok (.iload_n 1, 1) := by decide +kernel
theorem dX12_far_56 : decode cX12_far 56 = .ok (.iconst 1, 1) := by decide +kernel
theorem dX12_far_57 : decode cX12_far 57 = .ok (.if_icmp .ne 7, 3) := by decide +kernel
theorem dX12_far_60 : decode cX12_far 60 = .ok (.iload_n 3, 1) := by decide +kernel
theorem dX12_far_61 : decode cX12_far 61 = .ok (.goto 15, 3) := by decide +kernel
theorem dX12_far_64 : decode cX12_far 64 = .ok (.iload_n 1, 1) := by decide +kernel
theorem dX12_far_65 : decode cX12_far 65 = .ok (.iconst 2, 1) := by decide +kernel
theorem dX12_far_66 : decode cX12_far 66 = .ok (.if_icmp .ne 8, 3) := by decide +kernel
theorem dX12_far_69 : decode cX12_far 69 = .ok (.iload 4, 2) := by decide +kernel
theorem dX12_far_71 : decode cX12_far 71 = .ok (.goto 5, 3) := by decide +kernel
theorem dX12_far_74 : decode cX12_far 74 = .ok (.bipush (-9), 2) := by decide +kernel
theorem dX12_far_76 : decode cX12_far 76 = .ok (.ireturn, 1) := by decide +kernel
theorem dX12_far_77 : decode cX12_far 77 = .ok (.iinc 4 1, 3) := by decide +kernel
theorem dX12_far_80 : decode cX12_far 80 = .ok (.goto (-53), 3) := by decide +kernel
theorem dX12_far_83 : decode cX12_far 83 = .ok (.iinc 3 1, 3) := by decide +kernel
theorem dX12_far_86 : decode cX12_far 86 = .ok (.goto (-72), 3) := by decide +kernel
theorem dX12_far_89 : decode cX12_far 89 = .ok (.iinc 2 1, 3) := by decide +kernel
theorem dX12_far_92 : decode cX12_far 92 = .ok (.goto (-90), 3) := by decide +kernel
theorem dX12_far_95 : decode cX12_far 95 = .ok (.bipush (-9), 2) := by decide +kernel
theorem dX12_far_97 : decode cX12_far 97 = .ok (.ireturn, 1) := by decide +kernel
set_option maxRecDepth 20000 in
theorem ggX12_columns_X12_meets : GoodIn wsX12_columns wsX12_meets := goodIn_r _ [7, 8, 9, 10, 11, 12, 13, 14, 15, 16, 17, 18, 19, 20, 21, 22, 23, 24, 25, 26, 27, 28, 29, 30, 31, 32, 33, 34, 35, 36, 37, 38] (by decide +kernel) (by decide +kernel)
set_option maxRecDepth 20000 in
theorem gX12_columns_X12_meets : GoodIn wsX12_columns (wsV RX12 112 RX12 yX12_meets wsX12_meets) := goodIn_app (goodIn_of _ (by decide +kernel)) ggX12_columns_X12_meets
theorem dX12_columns_0 : decode cX12_columns 0 = .ok (.iload_n 1, 1) := by decide +kernel
theorem dX12_columns_1 : decode cX12_columns 1 = .ok (.bipush 8, 2) := by decide +kernel
theorem dX12_columns_3 : decode cX12_columns 3 = .ok (.if_icmp .le 5, 3) := by decide +kernel
theorem dX12_columns_6 : decode cX12_columns 6 = .ok (.iconst (-1), 1) := by decide +kernel
theorem dX12_columns_7 : decode cX12_columns 7 = .ok (.ireturn, 1) := by decide +kernel
theorem dX12_columns_8 : decode cX12_columns 8 = .ok (.iload_n 1, 1) := by decide +kernel
theorem dX12_columns_9 : decode cX12_columns 9 = .ok (.ifCond .ge 9, 3) := by decide +kernel
theorem dX12_columns_12 : decode cX12_columns 12 = .ok (.aload_n 0, 1) := by decide +kernel
theorem dX12_columns_13 : decode cX12_columns 13 = .ok (.iconst 4, 1) := by decide +kernel
theorem dX12_columns_14 : decode cX12_columns 14 = .ok (.invokevirtual 112, 3) := by decide +kernel
theorem dX12_columns_17 : decode cX12_columns 17 = .ok (.ireturn, 1) := by decide +kernel
theorem dX12_columns_18 : decode cX12_columns 18 = .ok (.aload_n 0, 1) := by decide +kernel
theorem dX12_columns_19 : decode cX12_columns 19 = .ok (.iload_n 1, 1) := by decide +kernel
theorem dX12_columns_20 : decode cX12_columns 20 = .ok (.putfield 128, 3) := by decide +kernel
theorem dX12_columns_23 : decode cX12_columns 23 = .ok (.iconst 0, 1) := by decide +kernel
theorem dX12_columns_24 : decode cX12_columns 24 = .ok (.istore_n 2, 1) := by decide +kernel
theorem dX12_columns_25 : decode cX12_columns 25 = .ok (.iload_n 2, 1) := by decide +kernel
theorem dX12_columns_26 : decode cX12_columns 26 = .ok (.bipush 12, 2) := by decide +kernel
theorem dX12_columns_28 : decode cX12_columns 28 = .ok (.if_icmp .ge 17, 3) := by decide +kernel
theorem dX12_columns_31 : decode cX12_columns 31 = .ok (.aload_n 0, 1) := by decide +kernel
theorem dX12_columns_32 : decode cX12_columns 32 = .ok (.getfield 16, 3) := by decide +kernel
theorem dX12_columns_35 : decode cX12_columns 35 = .ok (.iload_n 2, 1) := by decide +kernel
theorem dX12_columns_36 : decode cX12_columns 36 = .ok (.bipush (-9), 2) := by decide +kernel
theorem dX12_columns_38 : decode cX12_columns 38 = .ok (.iastore, 1) := by decide +kernel
theorem dX12_columns_39 : decode cX12_columns 39 = .ok (.iinc 2 1, 3) := by decide +kernel
theorem dX12_columns_42 : decode cX12_columns 42 = .ok (.goto (-17), 3) := by decide +kernel
theorem dX12_columns_45 : decode cX12_columns 45 = .ok (.iload_n 1, 1) := by decide +kernel
theorem dX12_columns_46 : decode cX12_columns 46 = .ok (.ireturn, 1) := by decide +kernel
set_option maxRecDepth 20000 in
theorem ggX12_row_X12_in : GoodIn wsX12_row wsX12_in := goodIn_r _ [6] (by decide +kernel) (by decide +kernel)
set_option maxRecDepth 20000 in
theorem gX12_row_X12_in : GoodIn wsX12_row (va_wsS RX12 76 yX12_in wsX12_in) := goodIn_app (goodIn_of _ (by decide +kernel)) ggX12_row_X12_in
set_option maxRecDepth 20000 in
theorem ggX12_row_X12_meets : GoodIn wsX12_row wsX12_meets := goodIn_r _ [10, 11, 12, 13, 14, 15, 16, 17, 18, 19, 20, 21, 22, 23, 24, 25, 26, 27, 28, 29, 30, 31, 32, 33, 34, 35, 36, 37, 38, 39, 40, 41] (by decide +kernel) (by decide +kernel)
set_option maxRecDepth 20000 in
theorem gX12_row_X12_meets : GoodIn wsX12_row (wsV RX12 112 RX12 yX12_meets wsX12_meets) := goodIn_app (goodIn_of _ (by decide +kernel)) ggX12_row_X12_meets
theorem dX12_row_0 : decode cX12_row 0 = .ok (.iload_n 2, 1) := by decide +kernel
theorem dX12_row_1 : decode cX12_row 1 = .ok (.iconst 0, 1) := by decide +kernel
theorem dX12_row_2 : decode cX12_row 2 = .ok (.iconst 1, 1) := by decide +kernel
theorem dX12_row_3 : decode cX12_row 3 = .ok (.aload_n 0, 1) := by decide +kernel
theorem dX12_row_4 : decode cX12_row 4 = .ok (.getfield 128, 3) := by decide +kernel
theorem dX12_row_7 : decode cX12_row 7 = .ok (.ishl, 1) := by decide +kernel
theorem dX12_row_8 : decode cX12_row 8 = .ok (.iconst 1, 1) := by decide +kernel
theorem dX12_row_9 : decode cX12_row 9 = .ok (.isub, 1) := by decide +kernel
theorem dX12_row_10 : decode cX12_row 10 = .ok (.invokestatic 76, 3) := by decide +kernel
theorem dX12_row_13 : decode cX12_row 13 = .ok (.ifCond .ne 5, 3) := by decide +kernel
theorem dX12_row_16 : decode cX12_row 16 = .ok (.iconst (-1), 1) := by decide +kernel
theorem dX12_row_17 : decode cX12_row 17 = .ok (.ireturn, 1) := by decide +kernel
theorem dX12_row_18 : decode cX12_row 18 = .ok (.iload_n 1, 1) := by decide +kernel
theorem dX12_row_19 : decode cX12_row 19 = .ok (.iconst 0, 1) := by decide +kernel
theorem dX12_row_20 : decode cX12_row 20 = .ok (.bipush 11, 2) := by decide +kernel
theorem dX12_row_22 : decode cX12_row 22 = .ok (.invokestatic 76, 3) := by decide +kernel
theorem dX12_row_25 : decode cX12_row 25 = .ok (.ifCond .ne 9, 3) := by decide +kernel
theorem dX12_row_28 : decode cX12_row 28 = .ok (.aload_n 0, 1) := by decide +kernel
theorem dX12_row_29 : decode cX12_row 29 = .ok (.iconst 2, 1) := by decide +kernel
theorem dX12_row_30 : decode cX12_row 30 = .ok (.invokevirtual 112, 3) := by decide +kernel
theorem dX12_row_33 : decode cX12_row 33 = .ok (.ireturn, 1) := by decide +kernel
theorem dX12_row_34 : decode cX12_row 34 = .ok (.aload_n 0, 1) := by decide +kernel
theorem dX12_row_35 : decode cX12_row 35 = .ok (.getfield 16, 3) := by decide +kernel
theorem dX12_row_38 : decode cX12_row 38 = .ok (.iload_n 1, 1) := by decide +kernel
theorem dX12_row_39 : decode cX12_row 39 = .ok (.iload_n 2, 1) := by decide +kernel
theorem dX12_row_40 : decode cX12_row 40 = .ok (.iastore, 1) := by decide +kernel
theorem dX12_row_41 : decode cX12_row 41 = .ok (.iconst 1, 1) := by decide +kernel
theorem dX12_row_42 : decode cX12_row 42 = .ok (.ireturn, 1) := by decide +kernel
set_option maxRecDepth 20000 in
theorem ggX12_told_X12_in : GoodIn wsX12_told wsX12_in := goodIn_r _ [5] (by decide +kernel) (by decide +kernel)
set_option maxRecDepth 20000 in
theorem gX12_told_X12_in : GoodIn wsX12_told (va_wsS RX12 76 yX12_in wsX12_in) := goodIn_app (goodIn_of _ (by decide +kernel)) ggX12_told_X12_in
set_option maxRecDepth 20000 in
theorem ggX12_told_X12_meets : GoodIn wsX12_told wsX12_meets := goodIn_r _ [9, 10, 11, 12, 13, 14, 15, 16, 17, 18, 19, 20, 21, 22, 23, 24, 25, 26, 27, 28, 29, 30, 31, 32, 33, 34, 35, 36, 37, 38, 39, 40] (by decide +kernel) (by decide +kernel)
set_option maxRecDepth 20000 in
theorem gX12_told_X12_meets : GoodIn wsX12_told (wsV RX12 112 RX12 yX12_meets wsX12_meets) := goodIn_app (goodIn_of _ (by decide +kernel)) ggX12_told_X12_meets
theorem dX12_told_0 : decode cX12_told 0 = .ok (.iload_n 1, 1) := by decide +kernel
theorem dX12_told_1 : decode cX12_told 1 = .ok (.iconst 0, 1) := by decide +kernel
theorem dX12_told_2 : decode cX12_told 2 = .ok (.bipush 11, 2) := by decide +kernel
theorem dX12_told_4 : decode cX12_told 4 = .ok (.invokestatic 76, 3) := by decide +kernel
theorem dX12_told_7 : decode cX12_told 7 = .ok (.ifCond .ne 11, 3) := by decide +kernel
theorem dX12_told_10 : decode cX12_told 10 = .ok (.aload_n 0, 1) := by decide +kernel
theorem dX12_told_11 : decode cX12_told 11 = .ok (.iconst 2, 1) := by decide +kernel
theorem dX12_told_12 : decode cX12_told 12 = .ok (.invokevirtual 112, 3) := by decide +kernel
theorem dX12_told_15 : decode cX12_told 15 = .ok (.goto 26, 3) := by decide +kernel
theorem dX12_told_18 : decode cX12_told 18 = .ok (.aload_n 0, 1) := by decide +kernel
theorem dX12_told_19 : decode cX12_told 19 = .ok (.getfield 16, 3) := by decide +kernel
theorem dX12_told_22 : decode cX12_told 22 = .ok (.iload_n 1, 1) := by decide +kernel
theorem dX12_told_23 : decode cX12_told 23 = .ok (.iaload, 1) := by decide +kernel
theorem dX12_told_24 : decode cX12_told 24 = .ok (.ifCond .ge 11, 3) := by decide +kernel
theorem dX12_told_27 : decode cX12_told 27 = .ok (.aload_n 0, 1) := by decide +kernel
theorem dX12_told_28 : decode cX12_told 28 = .ok (.iconst 1, 1) := by decide +kernel
theorem dX12_told_29 : decode cX12_told 29 = .ok (.invokevirtual 112, 3) := by decide +kernel
theorem dX12_told_32 : decode cX12_told 32 = .ok (.goto 9, 3) := by decide +kernel
theorem dX12_told_35 : decode cX12_told 35 = .ok (.aload_n 0, 1) := by decide +kernel
theorem dX12_told_36 : decode cX12_told 36 = .ok (.getfield 16, 3) := by decide +kernel
theorem dX12_told_39 : decode cX12_told 39 = .ok (.iload_n 1, 1) := by decide +kernel
theorem dX12_told_40 : decode cX12_told 40 = .ok (.iaload, 1) := by decide +kernel
theorem dX12_told_41 : decode cX12_told 41 = .ok (.ireturn, 1) := by decide +kernel
set_option maxRecDepth 20000 in
theorem ggX12_tear_X12_in : GoodIn wsX12_tear wsX12_in := goodIn_r _ [5] (by decide +kernel) (by decide +kernel)
set_option maxRecDepth 20000 in
theorem gX12_tear_X12_in : GoodIn wsX12_tear (va_wsS RX12 76 yX12_in wsX12_in) := goodIn_app (goodIn_of _ (by decide +kernel)) ggX12_tear_X12_in
set_option maxRecDepth 20000 in
theorem ggX12_tear_X12_meets : GoodIn wsX12_tear wsX12_meets := goodIn_r _ [9, 10, 11, 12, 13, 14, 15, 16, 17, 18, 19, 20, 21, 22, 23, 24, 25, 26, 27, 28, 29, 30, 31, 32, 33, 34, 35, 36, 37, 38, 39, 40] (by decide +kernel) (by decide +kernel)
set_option maxRecDepth 20000 in
theorem gX12_tear_X12_meets : GoodIn wsX12_tear (wsV RX12 112 RX12 yX12_meets wsX12_meets) := goodIn_app (goodIn_of _ (by decide +kernel)) ggX12_tear_X12_meets
theorem dX12_tear_0 : decode cX12_tear 0 = .ok (.iload_n 1, 1) := by decide +kernel
theorem dX12_tear_1 : decode cX12_tear 1 = .ok (.iconst 0, 1) := by decide +kernel
theorem dX12_tear_2 : decode cX12_tear 2 = .ok (.bipush 11, 2) := by decide +kernel
theorem dX12_tear_4 : decode cX12_tear 4 = .ok (.invokestatic 76, 3) := by decide +kernel
theorem dX12_tear_7 : decode cX12_tear 7 = .ok (.ifCond .ne 9, 3) := by decide +kernel
theorem dX12_tear_10 : decode cX12_tear 10 = .ok (.aload_n 0, 1) := by decide +kernel
theorem dX12_tear_11 : decode cX12_tear 11 = .ok (.iconst 2, 1) := by decide +kernel
theorem dX12_tear_12 : decode cX12_tear 12 = .ok (.invokevirtual 112, 3) := by decide +kernel
theorem dX12_tear_15 : decode cX12_tear 15 = .ok (.ireturn, 1) := by decide +kernel
theorem dX12_tear_16 : decode cX12_tear 16 = .ok (.aload_n 0, 1) := by decide +kernel
theorem dX12_tear_17 : decode cX12_tear 17 = .ok (.getfield 16, 3) := by decide +kernel
theorem dX12_tear_20 : decode cX12_tear 20 = .ok (.iload_n 1, 1) := by decide +kernel
theorem dX12_tear_21 : decode cX12_tear 21 = .ok (.iaload, 1) := by decide +kernel
theorem dX12_tear_22 : decode cX12_tear 22 = .ok (.ifCond .ge 9, 3) := by decide +kernel
theorem dX12_tear_25 : decode cX12_tear 25 = .ok (.aload_n 0, 1) := by decide +kernel
theorem dX12_tear_26 : decode cX12_tear 26 = .ok (.iconst 1, 1) := by decide +kernel
theorem dX12_tear_27 : decode cX12_tear 27 = .ok (.invokevirtual 112, 3) := by decide +kernel
theorem dX12_tear_30 : decode cX12_tear 30 = .ok (.ireturn, 1) := by decide +kernel
theorem dX12_tear_31 : decode cX12_tear 31 = .ok (.aload_n 0, 1) := by decide +kernel
theorem dX12_tear_32 : decode cX12_tear 32 = .ok (.getfield 16, 3) := by decide +kernel
theorem dX12_tear_35 : decode cX12_tear 35 = .ok (.iload_n 1, 1) := by decide +kernel
theorem dX12_tear_36 : decode cX12_tear 36 = .ok (.bipush (-9), 2) := by decide +kernel
theorem dX12_tear_38 : decode cX12_tear 38 = .ok (.iastore, 1) := by decide +kernel
theorem dX12_tear_39 : decode cX12_tear 39 = .ok (.iconst 1, 1) := by decide +kernel
theorem dX12_tear_40 : decode cX12_tear 40 = .ok (.ireturn, 1) := by decide +kernel
set_option maxRecDepth 20000 in
theorem ggX12_copy_X12_meets : GoodIn wsX12_copy wsX12_meets := goodIn_r _ [8, 9, 10, 11, 12, 13, 14, 15, 16, 17, 18, 19, 20, 21, 22, 23, 24, 25, 26, 27, 28, 29, 30, 31, 32, 33, 34, 35, 36, 37, 38, 39] (by decide +kernel) (by decide +kernel)
set_option maxRecDepth 20000 in
theorem gX12_copy_X12_meets : GoodIn wsX12_copy (wsV RX12 112 RX12 yX12_meets wsX12_meets) := goodIn_app (goodIn_of _ (by decide +kernel)) ggX12_copy_X12_meets
theorem dX12_copy_0 : decode cX12_copy 0 = .ok (.iload_n 1, 1) := by decide +kernel
theorem dX12_copy_1 : decode cX12_copy 1 = .ok (.ifCond .lt 35, 3) := by decide +kernel
theorem dX12_copy_4 : decode cX12_copy 4 = .ok (.iload_n 2, 1) := by decide +kernel
theorem dX12_copy_5 : decode cX12_copy 5 = .ok (.ifCond .lt 31, 3) := by decide +kernel
theorem dX12_copy_8 : decode cX12_copy 8 = .ok (.iload_n 3, 1) := by decide +kernel
theorem dX12_copy_9 : decode cX12_copy 9 = .ok (.ifCond .lt 27, 3) := by decide +kernel
theorem dX12_copy_12 : decode cX12_copy 12 = .ok (.iload_n 1, 1) := by decide +kernel
theorem dX12_copy_13 : decode cX12_copy 13 = .ok (.i2l, 1) := by decide +kernel
theorem dX12_copy_14 : decode cX12_copy 14 = .ok (.iload_n 3, 1) := by decide +kernel
theorem dX12_copy_15 : decode cX12_copy 15 = .ok (.i2l, 1) := by decide +kernel
theorem dX12_copy_16 : decode cX12_copy 16 = .ok (.ladd, 1) := by decide +kernel
theorem dX12_copy_17 : decode cX12_copy 17 = .ok (.ldc2_w 209, 3) := by decide +kernel
theorem dX12_copy_20 : decode cX12_copy 20 = .ok (.lcmp, 1) := by decide +kernel
theorem dX12_copy_21 : decode cX12_copy 21 = .ok (.ifCond .gt 15, 3) := by decide +kernel
theorem dX12_copy_24 : decode cX12_copy 24 = .ok (.iload_n 2, 1) := by decide +kernel
theorem dX12_copy_25 : decode cX12_copy 25 = .ok (.i2l, 1) := by decide +kernel
theorem dX12_copy_26 : decode cX12_copy 26 = .ok (.iload_n 3, 1) := by decide +kernel
theorem dX12_copy_27 : decode cX12_copy 27 = .ok (.i2l, 1) := by decide +kernel
theorem dX12_copy_28 : decode cX12_copy 28 = .ok (.ladd, 1) := by decide +kernel
theorem dX12_copy_29 : decode cX12_copy 29 = .ok (.ldc2_w 209, 3) := by decide +kernel
theorem dX12_copy_32 : decode cX12_copy 32 = .ok (.lcmp, 1) := by decide +kernel
theorem dX12_copy_33 : decode cX12_copy 33 = .ok (.ifCond .le 9, 3) := by decide +kernel
theorem dX12_copy_36 : decode cX12_copy 36 = .ok (.aload_n 0, 1) := by decide +kernel
theorem dX12_copy_37 : decode cX12_copy 37 = .ok (.iconst 2, 1) := by decide +kernel
theorem dX12_copy_38 : decode cX12_copy 38 = .ok (.invokevirtual 112, 3) := by decide +kernel
theorem dX12_copy_41 : decode cX12_copy 41 = .ok (.ireturn, 1) := by decide +kernel
theorem dX12_copy_42 : decode cX12_copy 42 = .ok (.iconst 0, 1) := by decide +kernel
theorem dX12_copy_43 : decode cX12_copy 43 = .ok (.istore 4, 2) := by decide +kernel
theorem dX12_copy_45 : decode cX12_copy 45 = .ok (.iload 4, 2) := by decide +kernel
theorem dX12_copy_47 : decode cX12_copy 47 = .ok (.iload_n 3, 1) := by decide +kernel
theorem dX12_copy_48 : decode cX12_copy 48 = .ok (.if_icmp .ge 25, 3) := by decide +kernel
theorem dX12_copy_51 : decode cX12_copy 51 = .ok (.aload_n 0, 1) := by decide +kernel
theorem dX12_copy_52 : decode cX12_copy 52 = .ok (.getfield 67, 3) := by decide +kernel
theorem dX12_copy_55 : decode cX12_copy 55 = .ok (.iload 4, 2) := by decide +kernel
theorem dX12_copy_57 : decode cX12_copy 57 = .ok (.aload_n 0, 1) := by decide +kernel
theorem dX12_copy_58 : decode cX12_copy 58 = .ok (.getfield 16, 3) := by decide +kernel
theorem dX12_copy_61 : decode cX12_copy 61 = .ok (.iload_n 1, 1) := by decide +kernel
theorem dX12_copy_62 : decode cX12_copy 62 = .ok (.iload 4, 2) := by decide +kernel
theorem dX12_copy_64 : decode cX12_copy 64 = .ok (.iadd, 1) := by decide +kernel
theorem dX12_copy_65 : decode cX12_copy 65 = .ok (.iaload, 1) := by decide +kernel
theorem dX12_copy_66 : decode cX12_copy 66 = .ok (.iastore, 1) := by decide +kernel
theorem dX12_copy_67 : decode cX12_copy 67 = .ok (.iinc 4 1, 3) := by decide +kernel
theorem dX12_copy_70 : decode cX12_copy 70 = .ok (.goto (-25), 3) := by decide +kernel
theorem dX12_copy_73 : decode cX12_copy 73 = .ok (.iconst 0, 1) := by decide +kernel
theorem dX12_copy_74 : decode cX12_copy 74 = .ok (.istore 4, 2) := by decide +kernel
theorem dX12_copy_76 : decode cX12_copy 76 = .ok (.iload 4, 2) := by decide +kernel
theorem dX12_copy_78 : decode cX12_copy 78 = .ok (.iload_n 3, 1) := by decide +kernel
theorem dX12_copy_79 : decode cX12_copy 79 = .ok (.if_icmp .ge 25, 3) := by decide +kernel
theorem dX12_copy_82 : decode cX12_copy 82 = .ok (.aload_n 0, 1) := by decide +kernel
theorem dX12_copy_83 : decode cX12_copy 83 = .ok (.getfield 16, 3) := by decide +kernel
theorem dX12_copy_86 : decode cX12_copy 86 = .ok (.iload_n 2, 1) := by decide +kernel
theorem dX12_copy_87 : decode cX12_copy 87 = .ok (.iload 4, 2) := by decide +kernel
theorem dX12_copy_89 : decode cX12_copy 89 = .ok (.iadd, 1) := by decide +kernel
theorem dX12_copy_90 : decode cX12_copy 90 = .ok (.aload_n 0, 1) := by decide +kernel
theorem dX12_copy_91 : decode cX12_copy 91 = .ok (.getfield 67, 3) := by decide +kernel
theorem dX12_copy_94 : decode cX12_copy 94 = .ok (.iload 4, 2) := by decide +kernel
theorem dX12_copy_96 : decode cX12_copy 96 = .ok (.iaload, 1) := by decide +kernel
theorem dX12_copy_97 : decode cX12_copy 97 = .ok (.iastore, 1) := by decide +kernel
theorem dX12_copy_98 : decode cX12_copy 98 = .ok (.iinc 4 1, 3) := by decide +kernel
theorem dX12_copy_101 : decode cX12_copy 101 = .ok (.goto (-25), 3) := by decide +kernel
theorem dX12_copy_104 : decode cX12_copy 104 = .ok (.iconst 1, 1) := by decide +kernel
theorem dX12_copy_105 : decode cX12_copy 105 = .ok (.ireturn, 1) := by decide +kernel
set_option maxRecDepth 20000 in
theorem ggX12_seat_X12_has : GoodIn wsX12_seat wsX12_has := goodIn_r _ [8] (by decide +kernel) (by decide +kernel)
set_option maxRecDepth 20000 in
theorem gX12_seat_X12_has : GoodIn wsX12_seat (va_wsS RX12 90 yX12_has wsX12_has) := goodIn_app (goodIn_of _ (by decide +kernel)) ggX12_seat_X12_has
set_option maxRecDepth 20000 in
theorem ggX12_seat_X12_setLine : GoodIn wsX12_seat wsX12_setLine := goodIn_r _ [12, 2, 13, 14, 15, 16, 5, 6, 7, 8, 17, 18, 19, 20, 3, 21, 22, 23, 24, 25, 26, 27, 28, 29, 30, 31, 32, 33, 34, 35, 36, 37, 38, 39, 40, 41, 42, 43, 44, 45, 46, 47, 48, 49] (by decide +kernel) (by decide +kernel)
set_option maxRecDepth 20000 in
theorem gX12_seat_X12_setLine : GoodIn wsX12_seat (wsV RX12 200 RX12 yX12_setLine wsX12_setLine) := goodIn_app (goodIn_of _ (by decide +kernel)) ggX12_seat_X12_setLine
theorem dX12_seat_0 : decode cX12_seat 0 = .ok (.aload_n 0, 1) := by decide +kernel
theorem dX12_seat_1 : decode cX12_seat 1 = .ok (.aload_n 0, 1) := by decide +kernel
theorem dX12_seat_2 : decode cX12_seat 2 = .ok (.getfield 128, 3) := by decide +kernel
theorem dX12_seat_5 : decode cX12_seat 5 = .ok (.putfield 191, 3) := by decide +kernel
theorem dX12_seat_8 : decode cX12_seat 8 = .ok (.iconst 0, 1) := by decide +kernel
theorem dX12_seat_9 : decode cX12_seat 9 = .ok (.istore_n 1, 1) := by decide +kernel
theorem dX12_seat_10 : decode cX12_seat 10 = .ok (.iload_n 1, 1) := by decide +kernel
theorem dX12_seat_11 : decode cX12_seat 11 = .ok (.aload_n 0, 1) := by decide +kernel
theorem dX12_seat_12 : decode cX12_seat 12 = .ok (.getfield 128, 3) := by decide +kernel
theorem dX12_seat_15 : decode cX12_seat 15 = .ok (.if_icmp .ge 68, 3) := by decide +kernel
theorem dX12_seat_18 : decode cX12_seat 18 = .ok (.aload_n 0, 1) := by decide +kernel
theorem dX12_seat_19 : decode cX12_seat 19 = .ok (.getfield 54, 3) := by decide +kernel
theorem dX12_seat_22 : decode cX12_seat 22 = .ok (.iload_n 1, 1) := by decide +kernel
theorem dX12_seat_23 : decode cX12_seat 23 = .ok (.iconst 0, 1) := by decide +kernel
theorem dX12_seat_24 : decode cX12_seat 24 = .ok (.iastore, 1) := by decide +kernel
theorem dX12_seat_25 : decode cX12_seat 25 = .ok (.iconst 0, 1) := by decide +kernel
theorem dX12_seat_26 : decode cX12_seat 26 = .ok (.istore_n 2, 1) := by decide +kernel
theorem dX12_seat_27 : decode cX12_seat 27 = .ok (.iload_n 2, 1) := by decide +kernel
theorem dX12_seat_28 : decode cX12_seat 28 = .ok (.bipush 12, 2) := by decide +kernel
theorem dX12_seat_30 : decode cX12_seat 30 = .ok (.if_icmp .ge 47, 3) := by decide +kernel
theorem dX12_seat_33 : decode cX12_seat 33 = .ok (.aload_n 0, 1) := by decide +kernel
theorem dX12_seat_34 : decode cX12_seat 34 = .ok (.getfield 54, 3) := by decide +kernel
theorem dX12_seat_37 : decode cX12_seat 37 = .ok (.iload_n 1, 1) := by decide +kernel
theorem dX12_seat_38 : decode cX12_seat 38 = .ok (.dup2, 1) := by decide +kernel
theorem dX12_seat_39 : decode cX12_seat 39 = .ok (.iaload, 1) := by decide +kernel
theorem dX12_seat_40 : decode cX12_seat 40 = .ok (.aload_n 0, 1) := by decide +kernel
theorem dX12_seat_41 : decode cX12_seat 41 = .ok (.getfield 16, 3) := by decide +kernel
theorem dX12_seat_44 : decode cX12_seat 44 = .ok (.iload_n 2, 1) := by decide +kernel
theorem dX12_seat_45 : decode cX12_seat 45 = .ok (.iaload, 1) := by decide +kernel
theorem dX12_seat_46 : decode cX12_seat 46 = .ok (.ifCond .lt 22, 3) := by decide +kernel
theorem dX12_seat_49 : decode cX12_seat 49 = .ok (.aload_n 0, 1) := by decide +kernel
theorem dX12_seat_50 : decode cX12_seat 50 = .ok (.getfield 16, 3) := by decide +kernel
theorem dX12_seat_53 : decode cX12_seat 53 = .ok (.iload_n 2, 1) := by decide +kernel
theorem dX12_seat_54 : decode cX12_seat 54 = .ok (.iaload, 1) := by decide +kernel
theorem dX12_seat_55 : decode cX12_seat 55 = .ok (.iload_n 1, 1) := by decide +kernel
theorem dX12_seat_56 : decode cX12_seat 56 = .ok (.invokestatic 90, 3) := by decide +kernel
theorem dX12_seat_59 : decode cX12_seat 59 = .ok (.ifCond .eq 9, 3) := by decide +kernel
theorem dX12_seat_62 : decode cX12_seat 62 = .ok (.iconst 1, 1) := by decide +kernel
theorem dX12_seat_63 : decode cX12_seat 63 = .ok (.iload_n 2, 1) := by decide +kernel
theorem dX12_seat_64 : decode cX12_seat 64 = .ok (.ishl, 1) := by decide +kernel
theorem dX12_seat_65 : decode cX12_seat 65 = .ok (.goto 4, 3) := by decide +kernel
theorem dX12_seat_68 : decode cX12_seat 68 = .ok (.iconst 0, 1) := by decide +kernel
theorem dX12_seat_69 : decode cX12_seat 69 = .ok (.ior, 1) := by decide +kernel
theorem dX12_seat_70 : decode cX12_seat 70 = .ok (.iastore, 1) := by decide +kernel
theorem dX12_seat_71 : decode cX12_seat 71 = .ok (.iinc 2 1, 3) := by decide +kernel
theorem dX12_seat_74 : decode cX12_seat 74 = .ok (.goto (-47), 3) := by decide +kernel
theorem dX12_seat_77 : decode cX12_seat 77 = .ok (.iinc 1 1, 3) := by decide +kernel
theorem dX12_seat_80 : decode cX12_seat 80 = .ok (.goto (-70), 3) := by decide +kernel
theorem dX12_seat_83 : decode cX12_seat 83 = .ok (.aload_n 0, 1) := by decide +kernel
theorem dX12_seat_84 : decode cX12_seat 84 = .ok (.invokevirtual 200, 3) := by decide +kernel
theorem dX12_seat_87 : decode cX12_seat 87 = .ok (.return_, 1) := by decide +kernel
set_option maxRecDepth 20000 in
theorem ggX12_seatings_X12_seat : GoodIn wsX12_seatings wsX12_seat := goodIn_r _ [5, 6, 7, 8, 9, 10, 11, 4, 12, 13, 14, 15, 16, 17, 18, 19, 20, 21, 22, 23, 24, 29, 30, 31, 32, 33, 34, 35, 36, 37, 38, 39, 40, 41, 42, 43, 44, 45, 46, 47, 48, 49, 50, 51, 52, 53, 54, 55, 56, 57] (by decide +kernel) (by decide +kernel)
set_option maxRecDepth 20000 in
theorem gX12_seatings_X12_seat : GoodIn wsX12_seatings (wsV RX12 211 RX12 yX12_seat wsX12_seat) := goodIn_app (goodIn_of _ (by decide +kernel)) ggX12_seatings_X12_seat
set_option maxRecDepth 20000 in
theorem ggX12_seatings_X12_lines : GoodIn wsX12_seatings wsX12_lines := goodIn_r _ [28, 7, 17, 29, 30, 31, 32, 33, 34, 35, 36, 37, 38, 39, 40, 41, 42, 43, 44, 45, 46, 47, 48, 49, 50, 51, 52, 53, 54, 55, 56, 57] (by decide +kernel) (by decide +kernel)
set_option maxRecDepth 20000 in
theorem gX12_seatings_X12_lines : GoodIn wsX12_seatings (wsV RX12 214 RX12 yX12_lines wsX12_lines) := goodIn_app (goodIn_of _ (by decide +kernel)) ggX12_seatings_X12_lines
theorem dX12_seatings_0 : decode cX12_seatings 0 = .ok (.aload_n 0, 1) := by decide +kernel
theorem dX12_seatings_1 : decode cX12_seatings 1 = .ok (.invokevirtual 211, 3) := by decide +kernel
theorem dX12_seatings_4 : decode cX12_seatings 4 = .ok (.aload_n 0, 1) := by decide +kernel
theorem dX12_seatings_5 : decode cX12_seatings 5 = .ok (.invokevirtual 214, 3) := by decide +kernel
theorem dX12_seatings_8 : decode cX12_seatings 8 = .ok (.ireturn, 1) := by decide +kernel
set_option maxRecDepth 20000 in
theorem ggX12_seat__X12_seat : GoodIn wsX12_seat_ wsX12_seat := goodIn_r _ [8, 2, 9, 10, 11, 12, 13, 7, 14, 15, 16, 17, 18, 19, 20, 1, 3, 21, 22, 23, 24, 28, 29, 30, 31, 32, 33, 34, 35, 36, 37, 38, 39, 40, 41, 42, 43, 44, 45, 46, 47, 48, 49, 50, 51, 52, 53, 54, 55, 56] (by decide +kernel) (by decide +kernel)
set_option maxRecDepth 20000 in
theorem gX12_seat__X12_seat : GoodIn wsX12_seat_ (wsV RX12 211 RX12 yX12_seat wsX12_seat) := goodIn_app (goodIn_of _ (by decide +kernel)) ggX12_seat__X12_seat
set_option maxRecDepth 20000 in
theorem ggX12_seat__X12_in : GoodIn wsX12_seat_ wsX12_in := goodIn_r _ [27] (by decide +kernel) (by decide +kernel)
set_option maxRecDepth 20000 in
theorem gX12_seat__X12_in : GoodIn wsX12_seat_ (va_wsS RX12 76 yX12_in wsX12_in) := goodIn_app (goodIn_of _ (by decide +kernel)) ggX12_seat__X12_in
theorem dX12_seat__0 : decode cX12_seat_ 0 = .ok (.aload_n 0, 1) := by decide +kernel
theorem dX12_seat__1 : decode cX12_seat_ 1 = .ok (.invokevirtual 211, 3) := by decide +kernel
theorem dX12_seat__4 : decode cX12_seat_ 4 = .ok (.aload_n 0, 1) := by decide +kernel
theorem dX12_seat__5 : decode cX12_seat_ 5 = .ok (.getfield 197, 3) := by decide +kernel
theorem dX12_seat__8 : decode cX12_seat_ 8 = .ok (.aload_n 0, 1) := by decide +kernel
theorem dX12_seat__9 : decode cX12_seat_ 9 = .ok (.getfield 128, 3) := by decide +kernel
theorem dX12_seat__12 : decode cX12_seat_ 12 = .ok (.if_icmp .ne 26, 3) := by decide +kernel
theorem dX12_seat__15 : decode cX12_seat_ 15 = .ok (.iload_n 1, 1) := by decide +kernel
theorem dX12_seat__16 : decode cX12_seat_ 16 = .ok (.iconst 0, 1) := by decide +kernel
theorem dX12_seat__17 : decode cX12_seat_ 17 = .ok (.aload_n 0, 1) := by decide +kernel
theorem dX12_seat__18 : decode cX12_seat_ 18 = .ok (.getfield 197, 3) := by decide +kernel
theorem dX12_seat__21 : decode cX12_seat_ 21 = .ok (.iconst 1, 1) := by decide +kernel
theorem dX12_seat__22 : decode cX12_seat_ 22 = .ok (.isub, 1) := by decide +kernel
theorem dX12_seat__23 : decode cX12_seat_ 23 = .ok (.invokestatic 76, 3) := by decide +kernel
theorem dX12_seat__26 : decode cX12_seat_ 26 = .ok (.ifCond .eq 12, 3) := by decide +kernel
theorem dX12_seat__29 : decode cX12_seat_ 29 = .ok (.aload_n 0, 1) := by decide +kernel
theorem dX12_seat__30 : decode cX12_seat_ 30 = .ok (.getfield 64, 3) := by decide +kernel
theorem dX12_seat__33 : decode cX12_seat_ 33 = .ok (.iload_n 1, 1) := by decide +kernel
theorem dX12_seat__34 : decode cX12_seat_ 34 = .ok (.iaload, 1) := by decide +kernel
theorem dX12_seat__35 : decode cX12_seat_ 35 = .ok (.goto 5, 3) := by decide +kernel
theorem dX12_seat__38 : decode cX12_seat_ 38 = .ok (.bipush (-9), 2) := by decide +kernel
theorem dX12_seat__40 : decode cX12_seat_ 40 = .ok (.ireturn, 1) := by decide +kernel
set_option maxRecDepth 20000 in
theorem ggX12_count_X12_pairs : GoodIn wsX12_count wsX12_pairs := goodIn_r _ [9, 2, 10, 11, 12, 8, 13, 14, 15, 16, 17, 18, 19, 20, 21, 22, 23, 24, 25, 26, 27, 28, 29, 30, 31, 32, 33, 34, 35, 36, 37, 38, 39, 40, 41, 42] (by decide +kernel) (by decide +kernel)
set_option maxRecDepth 20000 in
theorem gX12_count_X12_pairs : GoodIn wsX12_count (wsV RX12 131 RX12 yX12_pairs wsX12_pairs) := goodIn_app (goodIn_of _ (by decide +kernel)) ggX12_count_X12_pairs
theorem dX12_count_0 : decode cX12_count 0 = .ok (.iconst 0, 1) := by decide +kernel
theorem dX12_count_1 : decode cX12_count 1 = .ok (.istore_n 2, 1) := by decide +kernel
theorem dX12_count_2 : decode cX12_count 2 = .ok (.iconst 0, 1) := by decide +kernel
theorem dX12_count_3 : decode cX12_count 3 = .ok (.istore_n 3, 1) := by decide +kernel
theorem dX12_count_4 : decode cX12_count 4 = .ok (.iload_n 3, 1) := by decide +kernel
theorem dX12_count_5 : decode cX12_count 5 = .ok (.bipush 12, 2) := by decide +kernel
theorem dX12_count_7 : decode cX12_count 7 = .ok (.if_icmp .ge 26, 3) := by decide +kernel
theorem dX12_count_10 : decode cX12_count 10 = .ok (.iload_n 2, 1) := by decide +kernel
theorem dX12_count_11 : decode cX12_count 11 = .ok (.aload_n 0, 1) := by decide +kernel
theorem dX12_count_12 : decode cX12_count 12 = .ok (.getfield 16, 3) := by decide +kernel
theorem dX12_count_15 : decode cX12_count 15 = .ok (.iload_n 3, 1) := by decide +kernel
theorem dX12_count_16 : decode cX12_count 16 = .ok (.iaload, 1) := by decide +kernel
theorem dX12_count_17 : decode cX12_count 17 = .ok (.ifCond .lt 7, 3) := by decide +kernel
theorem dX12_count_20 : decode cX12_count 20 = .ok (.iconst 1, 1) := by decide +kernel
theorem dX12_count_21 : decode cX12_count 21 = .ok (.goto 4, 3) := by decide +kernel
theorem dX12_count_24 : decode cX12_count 24 = .ok (.iconst 0, 1) := by decide +kernel
theorem dX12_count_25 : decode cX12_count 25 = .ok (.iadd, 1) := by decide +kernel
theorem dX12_count_26 : decode cX12_count 26 = .ok (.istore_n 2, 1) := by decide +kernel
theorem dX12_count_27 : decode cX12_count 27 = .ok (.iinc 3 1, 3) := by decide +kernel
theorem dX12_count_30 : decode cX12_count 30 = .ok (.goto (-26), 3) := by decide +kernel
theorem dX12_count_33 : decode cX12_count 33 = .ok (.iload_n 1, 1) := by decide +kernel
theorem dX12_count_34 : decode cX12_count 34 = .ok (.tableswitch 56 0 4 #[34, 39, 44, 49, 51], 34) := by decide +kernel
theorem dX12_count_68 : decode cX12_count 68 = .ok (.aload_n 0, 1) := by decide +kernel
theorem dX12_count_69 : decode cX12_count 69 = .ok (.getfield 73, 3) := by decide +kernel
theorem dX12_count_72 : decode cX12_count 72 = .ok (.ireturn, 1) := by decide +kernel
theorem dX12_count_73 : decode cX12_count 73 = .ok (.aload_n 0, 1) := by decide +kernel
theorem dX12_count_74 : decode cX12_count 74 = .ok (.invokevirtual 131, 3) := by decide +kernel
theorem dX12_count_77 : decode cX12_count 77 = .ok (.ireturn, 1) := by decide +kernel
theorem dX12_count_78 : decode cX12_count 78 = .ok (.aload_n 0, 1) := by decide +kernel
theorem dX12_count_79 : decode cX12_count 79 = .ok (.getfield 128, 3) := by decide +kernel
theorem dX12_count_82 : decode cX12_count 82 = .ok (.ireturn, 1) := by decide +kernel
theorem dX12_count_83 : decode cX12_count 83 = .ok (.iload_n 2, 1) := by decide +kernel
theorem dX12_count_84 : decode cX12_count 84 = .ok (.ireturn, 1) := by decide +kernel
theorem dX12_count_85 : decode cX12_count 85 = .ok (.aload_n 0, 1) := by decide +kernel
theorem dX12_count_86 : decode cX12_count 86 = .ok (.getfield 80, 3) := by decide +kernel
theorem dX12_count_89 : decode cX12_count 89 = .ok (.ireturn, 1) := by decide +kernel
theorem dX12_count_90 : decode cX12_count 90 = .ok (.iconst (-1), 1) := by decide +kernel
theorem dX12_count_91 : decode cX12_count 91 = .ok (.ireturn, 1) := by decide +kernel
theorem dX12_finding_0 : decode cX12_finding 0 = .ok (.aload_n 0, 1) := by decide +kernel
theorem dX12_finding_1 : decode cX12_finding 1 = .ok (.getfield 70, 3) := by decide +kernel
theorem dX12_finding_4 : decode cX12_finding 4 = .ok (.ireturn, 1) := by decide +kernel
set_option maxRecDepth 20000 in
theorem ggX12_findings_X12_in : GoodIn wsX12_findings wsX12_in := goodIn_r _ [5] (by decide +kernel) (by decide +kernel)
set_option maxRecDepth 20000 in
theorem gX12_findings_X12_in : GoodIn wsX12_findings (va_wsS RX12 76 yX12_in wsX12_in) := goodIn_app (goodIn_of _ (by decide +kernel)) ggX12_findings_X12_in
theorem dX12_findings_0 : decode cX12_findings 0 = .ok (.iload_n 1, 1) := by decide +kernel
theorem dX12_findings_1 : decode cX12_findings 1 = .ok (.iconst 1, 1) := by decide +kernel
theorem dX12_findings_2 : decode cX12_findings 2 = .ok (.iconst 4, 1) := by decide +kernel
theorem dX12_findings_3 : decode cX12_findings 3 = .ok (.invokestatic 76, 3) := by decide +kernel
theorem dX12_findings_6 : decode cX12_findings 6 = .ok (.ifCond .eq 12, 3) := by decide +kernel
theorem dX12_findings_9 : decode cX12_findings 9 = .ok (.aload_n 0, 1) := by decide +kernel
theorem dX12_findings_10 : decode cX12_findings 10 = .ok (.getfield 7, 3) := by decide +kernel
theorem dX12_findings_13 : decode cX12_findings 13 = .ok (.iload_n 1, 1) := by decide +kernel
theorem dX12_findings_14 : decode cX12_findings 14 = .ok (.iaload, 1) := by decide +kernel
theorem dX12_findings_15 : decode cX12_findings 15 = .ok (.goto 4, 3) := by decide +kernel
theorem dX12_findings_18 : decode cX12_findings 18 = .ok (.iconst (-1), 1) := by decide +kernel
theorem dX12_findings_19 : decode cX12_findings 19 = .ok (.ireturn, 1) := by decide +kernel
theorem dX12_digest_0 : decode cX12_digest 0 = .ok (.ldc2_w 217, 3) := by decide +kernel
theorem dX12_digest_3 : decode cX12_digest 3 = .ok (.aload_n 0, 1) := by decide +kernel
theorem dX12_digest_4 : decode cX12_digest 4 = .ok (.getfield 73, 3) := by decide +kernel
theorem dX12_digest_7 : decode cX12_digest 7 = .ok (.i2l, 1) := by decide +kernel
theorem dX12_digest_8 : decode cX12_digest 8 = .ok (.ladd, 1) := by decide +kernel
theorem dX12_digest_9 : decode cX12_digest 9 = .ok (.lstore_n 1, 1) := by decide +kernel
theorem dX12_digest_10 : decode cX12_digest 10 = .ok (.iconst 0, 1) := by decide +kernel
theorem dX12_digest_11 : decode cX12_digest 11 = .ok (.istore_n 3, 1) := by decide +kernel
theorem dX12_digest_12 : decode cX12_digest 12 = .ok (.iload_n 3, 1) := by decide +kernel
theorem dX12_digest_13 : decode cX12_digest 13 = .ok (.aload_n 0, 1) := by decide +kernel
theorem dX12_digest_14 : decode cX12_digest 14 = .ok (.getfield 73, 3) := by decide +kernel
theorem dX12_digest_17 : decode cX12_digest 17 = .ok (.if_icmp .ge 23, 3) := by decide +kernel
theorem dX12_digest_20 : decode cX12_digest 20 = .ok (.ldc2_w 219, 3) := by decide +kernel
theorem dX12_digest_23 : decode cX12_digest 23 = .ok (.lload_n 1, 1) := by decide +kernel
