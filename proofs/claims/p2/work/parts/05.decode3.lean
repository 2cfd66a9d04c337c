theorem dX8_bring_20 : decode cX8_bring 20 = .ok (.getfield 25, 3) := by decide +kernel
theorem dX8_bring_23 : decode cX8_bring 23 = .ok (.iload_n 3, 1) := by decide +kernel
theorem dX8_bring_24 : decode cX8_bring 24 = .ok (.if_icmp .ne 4, 3) := by decide +kernel
theorem dX8_bring_27 : decode cX8_bring 27 = .ok (.return_, 1) := by decide +kernel
theorem dX8_bring_28 : decode cX8_bring 28 = .ok (.aload_n 0, 1) := by decide +kernel
theorem dX8_bring_29 : decode cX8_bring 29 = .ok (.aload_n 1, 1) := by decide +kernel
theorem dX8_bring_30 : decode cX8_bring 30 = .ok (.getfield 28, 3) := by decide +kernel
theorem dX8_bring_33 : decode cX8_bring 33 = .ok (.putfield 19, 3) := by decide +kernel
theorem dX8_bring_36 : decode cX8_bring 36 = .ok (.aload_n 0, 1) := by decide +kernel
theorem dX8_bring_37 : decode cX8_bring 37 = .ok (.iload_n 2, 1) := by decide +kernel
theorem dX8_bring_38 : decode cX8_bring 38 = .ok (.putfield 22, 3) := by decide +kernel
theorem dX8_bring_41 : decode cX8_bring 41 = .ok (.aload_n 0, 1) := by decide +kernel
theorem dX8_bring_42 : decode cX8_bring 42 = .ok (.iload_n 3, 1) := by decide +kernel
theorem dX8_bring_43 : decode cX8_bring 43 = .ok (.putfield 25, 3) := by decide +kernel
theorem dX8_bring_46 : decode cX8_bring 46 = .ok (.aload_n 0, 1) := by decide +kernel
theorem dX8_bring_47 : decode cX8_bring 47 = .ok (.iconst 0, 1) := by decide +kernel
theorem dX8_bring_48 : decode cX8_bring 48 = .ok (.putfield 15, 3) := by decide +kernel
theorem dX8_bring_51 : decode cX8_bring 51 = .ok (.aload_n 1, 1) := by decide +kernel
theorem dX8_bring_52 : decode cX8_bring 52 = .ok (.invokevirtual 33, 3) := by decide +kernel
theorem dX8_bring_55 : decode cX8_bring 55 = .ok (.iconst 1, 1) := by decide +kernel
theorem dX8_bring_56 : decode cX8_bring 56 = .ok (.iload_n 2, 1) := by decide +kernel
theorem dX8_bring_57 : decode cX8_bring 57 = .ok (.ishl, 1) := by decide +kernel
theorem dX8_bring_58 : decode cX8_bring 58 = .ok (.iconst (-1), 1) := by decide +kernel
theorem dX8_bring_59 : decode cX8_bring 59 = .ok (.ixor, 1) := by decide +kernel
theorem dX8_bring_60 : decode cX8_bring 60 = .ok (.iand, 1) := by decide +kernel
theorem dX8_bring_61 : decode cX8_bring 61 = .ok (.iconst 1, 1) := by decide +kernel
theorem dX8_bring_62 : decode cX8_bring 62 = .ok (.iload_n 3, 1) := by decide +kernel
theorem dX8_bring_63 : decode cX8_bring 63 = .ok (.ishl, 1) := by decide +kernel
theorem dX8_bring_64 : decode cX8_bring 64 = .ok (.iconst (-1), 1) := by decide +kernel
theorem dX8_bring_65 : decode cX8_bring 65 = .ok (.ixor, 1) := by decide +kernel
theorem dX8_bring_66 : decode cX8_bring 66 = .ok (.iand, 1) := by decide +kernel
theorem dX8_bring_67 : decode cX8_bring 67 = .ok (.istore 4, 2) := by decide +kernel
theorem dX8_bring_69 : decode cX8_bring 69 = .ok (.aload_n 1, 1) := by decide +kernel
theorem dX8_bring_70 : decode cX8_bring 70 = .ok (.getfield 37, 3) := by decide +kernel
theorem dX8_bring_73 : decode cX8_bring 73 = .ok (.iload_n 2, 1) := by decide +kernel
theorem dX8_bring_74 : decode cX8_bring 74 = .ok (.iaload, 1) := by decide +kernel
theorem dX8_bring_75 : decode cX8_bring 75 = .ok (.aload_n 1, 1) := by decide +kernel
theorem dX8_bring_76 : decode cX8_bring 76 = .ok (.getfield 37, 3) := by decide +kernel
theorem dX8_bring_79 : decode cX8_bring 79 = .ok (.iload_n 3, 1) := by decide +kernel
theorem dX8_bring_80 : decode cX8_bring 80 = .ok (.iaload, 1) := by decide +kernel
theorem dX8_bring_81 : decode cX8_bring 81 = .ok (.iand, 1) := by decide +kernel
theorem dX8_bring_82 : decode cX8_bring 82 = .ok (.istore 5, 2) := by decide +kernel
theorem dX8_bring_84 : decode cX8_bring 84 = .ok (.iload 5, 2) := by decide +kernel
theorem dX8_bring_86 : decode cX8_bring 86 = .ok (.istore 6, 2) := by decide +kernel
theorem dX8_bring_88 : decode cX8_bring 88 = .ok (.iload 6, 2) := by decide +kernel
theorem dX8_bring_90 : decode cX8_bring 90 = .ok (.iload 4, 2) := by decide +kernel
theorem dX8_bring_92 : decode cX8_bring 92 = .ok (.if_icmp .gt 45, 3) := by decide +kernel
theorem dX8_bring_95 : decode cX8_bring 95 = .ok (.iload 6, 2) := by decide +kernel
theorem dX8_bring_97 : decode cX8_bring 97 = .ok (.iload 4, 2) := by decide +kernel
theorem dX8_bring_99 : decode cX8_bring 99 = .ok (.iconst (-1), 1) := by decide +kernel
theorem dX8_bring_100 : decode cX8_bring 100 = .ok (.ixor, 1) := by decide +kernel
theorem dX8_bring_101 : decode cX8_bring 101 = .ok (.iand, 1) := by decide +kernel
theorem dX8_bring_102 : decode cX8_bring 102 = .ok (.ifCond .ne 29, 3) := by decide +kernel
theorem dX8_bring_105 : decode cX8_bring 105 = .ok (.iload 6, 2) := by decide +kernel
theorem dX8_bring_107 : decode cX8_bring 107 = .ok (.iload 5, 2) := by decide +kernel
theorem dX8_bring_109 : decode cX8_bring 109 = .ok (.iand, 1) := by decide +kernel
theorem dX8_bring_110 : decode cX8_bring 110 = .ok (.iload 5, 2) := by decide +kernel
theorem dX8_bring_112 : decode cX8_bring 112 = .ok (.if_icmp .ne 19, 3) := by decide +kernel
theorem dX8_bring_115 : decode cX8_bring 115 = .ok (.aload_n 0, 1) := by decide +kernel
theorem dX8_bring_116 : decode cX8_bring 116 = .ok (.aload_n 1, 1) := by decide +kernel
theorem dX8_bring_117 : decode cX8_bring 117 = .ok (.iload 6, 2) := by decide +kernel
theorem dX8_bring_119 : decode cX8_bring 119 = .ok (.invokevirtual 40, 3) := by decide +kernel
theorem dX8_bring_122 : decode cX8_bring 122 = .ok (.ifCond .eq 9, 3) := by decide +kernel
theorem dX8_bring_125 : decode cX8_bring 125 = .ok (.aload_n 0, 1) := by decide +kernel
theorem dX8_bring_126 : decode cX8_bring 126 = .ok (.iload 6, 2) := by decide +kernel
theorem dX8_bring_128 : decode cX8_bring 128 = .ok (.invokevirtual 44, 3) := by decide +kernel
theorem dX8_bring_131 : decode cX8_bring 131 = .ok (.iinc 6 1, 3) := by decide +kernel
theorem dX8_bring_134 : decode cX8_bring 134 = .ok (.goto (-46), 3) := by decide +kernel
theorem dX8_bring_137 : decode cX8_bring 137 = .ok (.return_, 1) := by decide +kernel
set_option maxRecDepth 20000 in
theorem ggX8_isPart_X4_all : GoodIn wsX8_isPart wsX4_all := goodIn_r _ [6, 7, 34, 35, 36] (by decide +kernel) (by decide +kernel)
set_option maxRecDepth 20000 in
theorem gX8_isPart_X4_all_n33 : GoodIn wsX8_isPart (wsX4_all) := ggX8_isPart_X4_all
set_option maxRecDepth 20000 in
theorem ggX8_isPart_X4_reach : GoodIn wsX8_isPart wsX4_reach := goodIn_r _ [10, 11, 12, 13, 14, 15, 16, 17, 18, 19, 20, 21, 22, 34, 35, 36] (by decide +kernel) (by decide +kernel)
set_option maxRecDepth 20000 in
theorem gX8_isPart_X4_reach_n48 : GoodIn wsX8_isPart (wsX4_reach) := ggX8_isPart_X4_reach
set_option maxRecDepth 20000 in
theorem ggX8_isPart_X11_in : GoodIn wsX8_isPart wsX11_in := goodIn_r _ [24] (by decide +kernel) (by decide +kernel)
set_option maxRecDepth 20000 in
theorem gX8_isPart_X11_in_n52 : GoodIn wsX8_isPart (wsX11_in) := ggX8_isPart_X11_in
set_option maxRecDepth 20000 in
theorem ggX8_isPart_X4_around : GoodIn wsX8_isPart wsX4_around := goodIn_r _ [27, 7, 11, 28, 16, 17, 18, 19, 21, 13, 22, 34, 35, 36] (by decide +kernel) (by decide +kernel)
set_option maxRecDepth 20000 in
theorem gX8_isPart_X4_around_n56 : GoodIn wsX8_isPart (wsX4_around) := ggX8_isPart_X4_around
theorem dX8_isPart_0 : decode cX8_isPart 0 = .ok (.aload_n 1, 1) := by decide +kernel
theorem dX8_isPart_1 : decode cX8_isPart 1 = .ok (.invokevirtual 33, 3) := by decide +kernel
theorem dX8_isPart_4 : decode cX8_isPart 4 = .ok (.iload_n 2, 1) := by decide +kernel
theorem dX8_isPart_5 : decode cX8_isPart 5 = .ok (.iconst (-1), 1) := by decide +kernel
theorem dX8_isPart_6 : decode cX8_isPart 6 = .ok (.ixor, 1) := by decide +kernel
theorem dX8_isPart_7 : decode cX8_isPart 7 = .ok (.iand, 1) := by decide +kernel
theorem dX8_isPart_8 : decode cX8_isPart 8 = .ok (.istore_n 3, 1) := by decide +kernel
theorem dX8_isPart_9 : decode cX8_isPart 9 = .ok (.aload_n 1, 1) := by decide +kernel
theorem dX8_isPart_10 : decode cX8_isPart 10 = .ok (.aload_n 0, 1) := by decide +kernel
theorem dX8_isPart_11 : decode cX8_isPart 11 = .ok (.getfield 22, 3) := by decide +kernel
theorem dX8_isPart_14 : decode cX8_isPart 14 = .ok (.iload_n 3, 1) := by decide +kernel
theorem dX8_isPart_15 : decode cX8_isPart 15 = .ok (.invokevirtual 48, 3) := by decide +kernel
theorem dX8_isPart_18 : decode cX8_isPart 18 = .ok (.istore 4, 2) := by decide +kernel
theorem dX8_isPart_20 : decode cX8_isPart 20 = .ok (.iload 4, 2) := by decide +kernel
theorem dX8_isPart_22 : decode cX8_isPart 22 = .ok (.aload_n 0, 1) := by decide +kernel
theorem dX8_isPart_23 : decode cX8_isPart 23 = .ok (.getfield 25, 3) := by decide +kernel
theorem dX8_isPart_26 : decode cX8_isPart 26 = .ok (.invokestatic 52, 3) := by decide +kernel
theorem dX8_isPart_29 : decode cX8_isPart 29 = .ok (.ifCond .ne 34, 3) := by decide +kernel
theorem dX8_isPart_32 : decode cX8_isPart 32 = .ok (.aload_n 1, 1) := by decide +kernel
theorem dX8_isPart_33 : decode cX8_isPart 33 = .ok (.iload 4, 2) := by decide +kernel
theorem dX8_isPart_35 : decode cX8_isPart 35 = .ok (.invokevirtual 56, 3) := by decide +kernel
theorem dX8_isPart_38 : decode cX8_isPart 38 = .ok (.iload_n 2, 1) := by decide +kernel
theorem dX8_isPart_39 : decode cX8_isPart 39 = .ok (.if_icmp .ne 24, 3) := by decide +kernel
theorem dX8_isPart_42 : decode cX8_isPart 42 = .ok (.aload_n 1, 1) := by decide +kernel
theorem dX8_isPart_43 : decode cX8_isPart 43 = .ok (.aload_n 1, 1) := by decide +kernel
theorem dX8_isPart_44 : decode cX8_isPart 44 = .ok (.aload_n 0, 1) := by decide +kernel
theorem dX8_isPart_45 : decode cX8_isPart 45 = .ok (.getfield 25, 3) := by decide +kernel
theorem dX8_isPart_48 : decode cX8_isPart 48 = .ok (.iload_n 3, 1) := by decide +kernel
theorem dX8_isPart_49 : decode cX8_isPart 49 = .ok (.invokevirtual 48, 3) := by decide +kernel
theorem dX8_isPart_52 : decode cX8_isPart 52 = .ok (.invokevirtual 56, 3) := by decide +kernel
theorem dX8_isPart_55 : decode cX8_isPart 55 = .ok (.iload_n 2, 1) := by decide +kernel
theorem dX8_isPart_56 : decode cX8_isPart 56 = .ok (.if_icmp .ne 7, 3) := by decide +kernel
theorem dX8_isPart_59 : decode cX8_isPart 59 = .ok (.iconst 1, 1) := by decide +kernel
theorem dX8_isPart_60 : decode cX8_isPart 60 = .ok (.goto 4, 3) := by decide +kernel
theorem dX8_isPart_63 : decode cX8_isPart 63 = .ok (.iconst 0, 1) := by decide +kernel
theorem dX8_isPart_64 : decode cX8_isPart 64 = .ok (.ireturn, 1) := by decide +kernel
theorem dX8_keep_0 : decode cX8_keep 0 = .ok (.aload_n 0, 1) := by decide +kernel
theorem dX8_keep_1 : decode cX8_keep 1 = .ok (.getfield 15, 3) := by decide +kernel
theorem dX8_keep_4 : decode cX8_keep 4 = .ok (.sipush 252, 3) := by decide +kernel
theorem dX8_keep_7 : decode cX8_keep 7 = .ok (.if_icmp .ge 23, 3) := by decide +kernel
theorem dX8_keep_10 : decode cX8_keep 10 = .ok (.aload_n 0, 1) := by decide +kernel
theorem dX8_keep_11 : decode cX8_keep 11 = .ok (.getfield 9, 3) := by decide +kernel
theorem dX8_keep_14 : decode cX8_keep 14 = .ok (.aload_n 0, 1) := by decide +kernel
theorem dX8_keep_15 : decode cX8_keep 15 = .ok (.getfield 15, 3) := by decide +kernel
theorem dX8_keep_18 : decode cX8_keep 18 = .ok (.iload_n 1, 1) := by decide +kernel
theorem dX8_keep_19 : decode cX8_keep 19 = .ok (.iastore, 1) := by decide +kernel
theorem dX8_keep_20 : decode cX8_keep 20 = .ok (.aload_n 0, 1) := by decide +kernel
theorem dX8_keep_21 : decode cX8_keep 21 = .ok (.dup, 1) := by decide +kernel
theorem dX8_keep_22 : decode cX8_keep 22 = .ok (.getfield 15, 3) := by decide +kernel
theorem dX8_keep_25 : decode cX8_keep 25 = .ok (.iconst 1, 1) := by decide +kernel
theorem dX8_keep_26 : decode cX8_keep 26 = .ok (.iadd, 1) := by decide +kernel
theorem dX8_keep_27 : decode cX8_keep 27 = .ok (.putfield 15, 3) := by decide +kernel
theorem dX8_keep_30 : decode cX8_keep 30 = .ok (.return_, 1) := by decide +kernel
set_option maxRecDepth 20000 in
theorem ggX9_init_X3_init : GoodIn wsX9_init wsX3_init := goodIn_r _ [13, 14, 2, 3, 15, 8, 16, 17, 18, 19] (by decide +kernel) (by decide +kernel)
set_option maxRecDepth 20000 in
theorem gX9_init_X3_init_n11 : GoodIn wsX9_init (wsX3_init) := ggX9_init_X3_init
theorem dX9_init_0 : decode cX9_init 0 = .ok (.aload_n 0, 1) := by decide +kernel
theorem dX9_init_1 : decode cX9_init 1 = .ok (.invokespecial 3, 3) := by decide +kernel
theorem dX9_init_4 : decode cX9_init 4 = .ok (.aload_n 0, 1) := by decide +kernel
theorem dX9_init_5 : decode cX9_init 5 = .ok (.new 9, 3) := by decide +kernel
theorem dX9_init_8 : decode cX9_init 8 = .ok (.dup, 1) := by decide +kernel
theorem dX9_init_9 : decode cX9_init 9 = .ok (.invokespecial 11, 3) := by decide +kernel
theorem dX9_init_12 : decode cX9_init 12 = .ok (.putfield 12, 3) := by decide +kernel
theorem dX9_init_15 : decode cX9_init 15 = .ok (.aload_n 0, 1) := by decide +kernel
theorem dX9_init_16 : decode cX9_init 16 = .ok (.bipush 12, 2) := by decide +kernel
theorem dX9_init_18 : decode cX9_init 18 = .ok (.newarray .int, 2) := by decide +kernel
theorem dX9_init_20 : decode cX9_init 20 = .ok (.putfield 18, 3) := by decide +kernel
theorem dX9_init_23 : decode cX9_init 23 = .ok (.aload_n 0, 1) := by decide +kernel
theorem dX9_init_24 : decode cX9_init 24 = .ok (.iconst 0, 1) := by decide +kernel
theorem dX9_init_25 : decode cX9_init 25 = .ok (.putfield 22, 3) := by decide +kernel
theorem dX9_init_28 : decode cX9_init 28 = .ok (.aload_n 0, 1) := by decide +kernel
theorem dX9_init_29 : decode cX9_init 29 = .ok (.iconst (-1), 1) := by decide +kernel
theorem dX9_init_30 : decode cX9_init 30 = .ok (.putfield 26, 3) := by decide +kernel
theorem dX9_init_33 : decode cX9_init 33 = .ok (.return_, 1) := by decide +kernel
set_option maxRecDepth 20000 in
theorem ggX9_bring_X3_goesWithoutFill : GoodIn wsX9_bring wsX3_goesWithoutFill := goodIn_r _ [7, 8, 9, 10, 11, 5, 12, 13, 14, 15, 16, 17, 18, 19, 20, 21, 22, 23, 24, 25, 26, 27, 28, 29, 30, 31, 32, 33, 34, 35, 36, 37, 38, 39, 40, 41, 42, 43, 44, 68, 69, 65, 66, 67] (by decide +kernel) (by decide +kernel)
set_option maxRecDepth 20000 in
theorem gX9_bring_X3_goesWithoutFill_n34 : GoodIn wsX9_bring (wsX3_goesWithoutFill) := ggX9_bring_X3_goesWithoutFill
set_option maxRecDepth 20000 in
theorem ggX9_bring_X9_lookFor : GoodIn wsX9_bring wsX9_lookFor := goodIn_r _ [49, 50, 51, 52, 48, 53, 54, 55, 56, 57, 58, 59, 60, 27, 28, 29, 65, 66, 67, 61, 62, 63, 64] (by decide +kernel) (by decide +kernel)
set_option maxRecDepth 20000 in
theorem gX9_bring_X9_lookFor : GoodIn wsX9_bring (wsV RX9 38 RX9 yX9_lookFor wsX9_lookFor) := goodIn_app (goodIn_of _ (by decide +kernel)) ggX9_bring_X9_lookFor
theorem dX9_bring_0 : decode cX9_bring 0 = .ok (.aload_n 0, 1) := by decide +kernel
theorem dX9_bring_1 : decode cX9_bring 1 = .ok (.getfield 26, 3) := by decide +kernel
theorem dX9_bring_4 : decode cX9_bring 4 = .ok (.aload_n 1, 1) := by decide +kernel
theorem dX9_bring_5 : decode cX9_bring 5 = .ok (.getfield 29, 3) := by decide +kernel
theorem dX9_bring_8 : decode cX9_bring 8 = .ok (.if_icmp .ne 4, 3) := by decide +kernel
theorem dX9_bring_11 : decode cX9_bring 11 = .ok (.return_, 1) := by decide +kernel
theorem dX9_bring_12 : decode cX9_bring 12 = .ok (.aload_n 0, 1) := by decide +kernel
theorem dX9_bring_13 : decode cX9_bring 13 = .ok (.aload_n 1, 1) := by decide +kernel
theorem dX9_bring_14 : decode cX9_bring 14 = .ok (.getfield 29, 3) := by decide +kernel
theorem dX9_bring_17 : decode cX9_bring 17 = .ok (.putfield 26, 3) := by decide +kernel
theorem dX9_bring_20 : decode cX9_bring 20 = .ok (.aload_n 0, 1) := by decide +kernel
theorem dX9_bring_21 : decode cX9_bring 21 = .ok (.aload_n 0, 1) := by decide +kernel
theorem dX9_bring_22 : decode cX9_bring 22 = .ok (.getfield 12, 3) := by decide +kernel
theorem dX9_bring_25 : decode cX9_bring 25 = .ok (.aload_n 1, 1) := by decide +kernel
theorem dX9_bring_26 : decode cX9_bring 26 = .ok (.invokevirtual 34, 3) := by decide +kernel
theorem dX9_bring_29 : decode cX9_bring 29 = .ok (.ifCond .eq 7, 3) := by decide +kernel
theorem dX9_bring_32 : decode cX9_bring 32 = .ok (.iconst 0, 1) := by decide +kernel
theorem dX9_bring_33 : decode cX9_bring 33 = .ok (.goto 8, 3) := by decide +kernel
theorem dX9_bring_36 : decode cX9_bring 36 = .ok (.aload_n 0, 1) := by decide +kernel
theorem dX9_bring_37 : decode cX9_bring 37 = .ok (.aload_n 1, 1) := by decide +kernel
theorem dX9_bring_38 : decode cX9_bring 38 = .ok (.invokevirtual 38, 3) := by decide +kernel
theorem dX9_bring_41 : decode cX9_bring 41 = .ok (.putfield 22, 3) := by decide +kernel
theorem dX9_bring_44 : decode cX9_bring 44 = .ok (.return_, 1) := by decide +kernel
set_option maxRecDepth 20000 in
theorem ggX9_lookFor_X9_closes : GoodIn wsX9_lookFor wsX9_closes := goodIn_r _ [5, 1, 6, 7, 8, 4, 9, 10, 11, 12, 13, 14, 15, 2, 3, 16, 17, 18, 19, 20, 21, 22] (by decide +kernel) (by decide +kernel)
set_option maxRecDepth 20000 in
theorem gX9_lookFor_X9_closes : GoodIn wsX9_lookFor (va_wsS RX9 45 yX9_closes wsX9_closes) := goodIn_app (goodIn_of _ (by decide +kernel)) ggX9_lookFor_X9_closes
theorem dX9_lookFor_0 : decode cX9_lookFor 0 = .ok (.iconst 4, 1) := by decide +kernel
theorem dX9_lookFor_1 : decode cX9_lookFor 1 = .ok (.istore_n 2, 1) := by decide +kernel
theorem dX9_lookFor_2 : decode cX9_lookFor 2 = .ok (.iload_n 2, 1) := by decide +kernel
theorem dX9_lookFor_3 : decode cX9_lookFor 3 = .ok (.aload_n 1, 1) := by decide +kernel
theorem dX9_lookFor_4 : decode cX9_lookFor 4 = .ok (.getfield 42, 3) := by decide +kernel
theorem dX9_lookFor_7 : decode cX9_lookFor 7 = .ok (.if_icmp .gt 45, 3) := by decide +kernel
theorem dX9_lookFor_10 : decode cX9_lookFor 10 = .ok (.iconst 0, 1) := by decide +kernel
theorem dX9_lookFor_11 : decode cX9_lookFor 11 = .ok (.istore_n 3, 1) := by decide +kernel
theorem dX9_lookFor_12 : decode cX9_lookFor 12 = .ok (.iload_n 3, 1) := by decide +kernel
theorem dX9_lookFor_13 : decode cX9_lookFor 13 = .ok (.aload_n 1, 1) := by decide +kernel
theorem dX9_lookFor_14 : decode cX9_lookFor 14 = .ok (.getfield 42, 3) := by decide +kernel
theorem dX9_lookFor_17 : decode cX9_lookFor 17 = .ok (.if_icmp .ge 29, 3) := by decide +kernel
theorem dX9_lookFor_20 : decode cX9_lookFor 20 = .ok (.aload_n 0, 1) := by decide +kernel
theorem dX9_lookFor_21 : decode cX9_lookFor 21 = .ok (.getfield 18, 3) := by decide +kernel
theorem dX9_lookFor_24 : decode cX9_lookFor 24 = .ok (.iconst 0, 1) := by decide +kernel
theorem dX9_lookFor_25 : decode cX9_lookFor 25 = .ok (.iload_n 3, 1) := by decide +kernel
theorem dX9_lookFor_26 : decode cX9_lookFor 26 = .ok (.iastore, 1) := by decide +kernel
theorem dX9_lookFor_27 : decode cX9_lookFor 27 = .ok (.aload_n 0, 1) := by decide +kernel
theorem dX9_lookFor_28 : decode cX9_lookFor 28 = .ok (.aload_n 1, 1) := by decide +kernel
theorem dX9_lookFor_29 : decode cX9_lookFor 29 = .ok (.iload_n 2, 1) := by decide +kernel
theorem dX9_lookFor_30 : decode cX9_lookFor 30 = .ok (.iconst 1, 1) := by decide +kernel
theorem dX9_lookFor_31 : decode cX9_lookFor 31 = .ok (.iconst 0, 1) := by decide +kernel
theorem dX9_lookFor_32 : decode cX9_lookFor 32 = .ok (.invokestatic 45, 3) := by decide +kernel
theorem dX9_lookFor_35 : decode cX9_lookFor 35 = .ok (.ifCond .eq 5, 3) := by decide +kernel
theorem dX9_lookFor_38 : decode cX9_lookFor 38 = .ok (.iload_n 2, 1) := by decide +kernel
theorem dX9_lookFor_39 : decode cX9_lookFor 39 = .ok (.ireturn, 1) := by decide +kernel
theorem dX9_lookFor_40 : decode cX9_lookFor 40 = .ok (.iinc 3 1, 3) := by decide +kernel
theorem dX9_lookFor_43 : decode cX9_lookFor 43 = .ok (.goto (-31), 3) := by decide +kernel
theorem dX9_lookFor_46 : decode cX9_lookFor 46 = .ok (.iinc 2 1, 3) := by decide +kernel
theorem dX9_lookFor_49 : decode cX9_lookFor 49 = .ok (.goto (-47), 3) := by decide +kernel
theorem dX9_lookFor_52 : decode cX9_lookFor 52 = .ok (.iconst 0, 1) := by decide +kernel
theorem dX9_lookFor_53 : decode cX9_lookFor 53 = .ok (.ireturn, 1) := by decide +kernel
set_option maxRecDepth 20000 in
theorem ggX9_closes_X9_nextOnes : GoodIn wsX9_closes wsX9_nextOnes := goodIn_r _ [6, 1, 7, 8, 5, 9, 18, 19, 20, 21, 15, 16, 17] (by decide +kernel) (by decide +kernel)
set_option maxRecDepth 20000 in
theorem gX9_closes_X9_nextOnes : GoodIn wsX9_closes (wsV RX9 49 RX9 yX9_nextOnes wsX9_nextOnes) := goodIn_app (goodIn_of _ (by decide +kernel)) ggX9_closes_X9_nextOnes
set_option maxRecDepth 20000 in
theorem ggX9_closes_X11_in : GoodIn wsX9_closes wsX11_in := goodIn_r _ [12] (by decide +kernel) (by decide +kernel)
set_option maxRecDepth 20000 in
theorem gX9_closes_X11_in_n56 : GoodIn wsX9_closes (wsX11_in) := ggX9_closes_X11_in
set_option maxRecDepth 20000 in
theorem ggX9_closes_X9_closes : GoodIn wsX9_closes wsX9_closes := goodIn_r _ [0, 1, 2, 3, 4, 5, 6, 7, 8, 9, 10, 11, 12, 13, 14, 15, 16, 17, 18, 19, 20, 21] (by decide +kernel) (by decide +kernel)
set_option maxRecDepth 20000 in
theorem gX9_closes_X9_closes : GoodIn wsX9_closes (va_wsS RX9 45 yX9_closes wsX9_closes) := goodIn_app (goodIn_of _ (by decide +kernel)) ggX9_closes_X9_closes
theorem dX9_closes_0 : decode cX9_closes 0 = .ok (.iload_n 3, 1) := by decide +kernel
theorem dX9_closes_1 : decode cX9_closes 1 = .ok (.iload_n 2, 1) := by decide +kernel
theorem dX9_closes_2 : decode cX9_closes 2 = .ok (.if_icmp .lt 5, 3) := by decide +kernel
theorem dX9_closes_5 : decode cX9_closes 5 = .ok (.iconst 1, 1) := by decide +kernel
theorem dX9_closes_6 : decode cX9_closes 6 = .ok (.ireturn, 1) := by decide +kernel
theorem dX9_closes_7 : decode cX9_closes 7 = .ok (.aload_n 0, 1) := by decide +kernel
theorem dX9_closes_8 : decode cX9_closes 8 = .ok (.aload_n 1, 1) := by decide +kernel
theorem dX9_closes_9 : decode cX9_closes 9 = .ok (.iload_n 2, 1) := by decide +kernel
theorem dX9_closes_10 : decode cX9_closes 10 = .ok (.iload_n 3, 1) := by decide +kernel
theorem dX9_closes_11 : decode cX9_closes 11 = .ok (.invokevirtual 49, 3) := by decide +kernel
theorem dX9_closes_14 : decode cX9_closes 14 = .ok (.iload 4, 2) := by decide +kernel
theorem dX9_closes_16 : decode cX9_closes 16 = .ok (.iconst (-1), 1) := by decide +kernel
theorem dX9_closes_17 : decode cX9_closes 17 = .ok (.ixor, 1) := by decide +kernel
theorem dX9_closes_18 : decode cX9_closes 18 = .ok (.iand, 1) := by decide +kernel
theorem dX9_closes_19 : decode cX9_closes 19 = .ok (.istore 5, 2) := by decide +kernel
theorem dX9_closes_21 : decode cX9_closes 21 = .ok (.iload_n 3, 1) := by decide +kernel
theorem dX9_closes_22 : decode cX9_closes 22 = .ok (.iconst 1, 1) := by decide +kernel
theorem dX9_closes_23 : decode cX9_closes 23 = .ok (.if_icmp .ne 7, 3) := by decide +kernel
theorem dX9_closes_26 : decode cX9_closes 26 = .ok (.iconst 0, 1) := by decide +kernel
theorem dX9_closes_27 : decode cX9_closes 27 = .ok (.goto 16, 3) := by decide +kernel
theorem dX9_closes_30 : decode cX9_closes 30 = .ok (.aload_n 1, 1) := by decide +kernel
theorem dX9_closes_31 : decode cX9_closes 31 = .ok (.getfield 53, 3) := by decide +kernel
theorem dX9_closes_34 : decode cX9_closes 34 = .ok (.aload_n 0, 1) := by decide +kernel
theorem dX9_closes_35 : decode cX9_closes 35 = .ok (.getfield 18, 3) := by decide +kernel
theorem dX9_closes_38 : decode cX9_closes 38 = .ok (.iload_n 3, 1) := by decide +kernel
theorem dX9_closes_39 : decode cX9_closes 39 = .ok (.iconst 1, 1) := by decide +kernel
theorem dX9_closes_40 : decode cX9_closes 40 = .ok (.isub, 1) := by decide +kernel
theorem dX9_closes_41 : decode cX9_closes 41 = .ok (.iaload, 1) := by decide +kernel
theorem dX9_closes_42 : decode cX9_closes 42 = .ok (.iaload, 1) := by decide +kernel
theorem dX9_closes_43 : decode cX9_closes 43 = .ok (.istore 6, 2) := by decide +kernel
theorem dX9_closes_45 : decode cX9_closes 45 = .ok (.iconst 0, 1) := by decide +kernel
theorem dX9_closes_46 : decode cX9_closes 46 = .ok (.istore 7, 2) := by decide +kernel
theorem dX9_closes_48 : decode cX9_closes 48 = .ok (.iload 7, 2) := by decide +kernel
theorem dX9_closes_50 : decode cX9_closes 50 = .ok (.aload_n 1, 1) := by decide +kernel
theorem dX9_closes_51 : decode cX9_closes 51 = .ok (.getfield 42, 3) := by decide +kernel
theorem dX9_closes_54 : decode cX9_closes 54 = .ok (.if_icmp .ge 51, 3) := by decide +kernel
theorem dX9_closes_57 : decode cX9_closes 57 = .ok (.iload 5, 2) := by decide +kernel
theorem dX9_closes_59 : decode cX9_closes 59 = .ok (.iload 7, 2) := by decide +kernel
theorem dX9_closes_61 : decode cX9_closes 61 = .ok (.invokestatic 56, 3) := by decide +kernel
theorem dX9_closes_64 : decode cX9_closes 64 = .ok (.ifCond .eq 35, 3) := by decide +kernel
theorem dX9_closes_67 : decode cX9_closes 67 = .ok (.aload_n 0, 1) := by decide +kernel
theorem dX9_closes_68 : decode cX9_closes 68 = .ok (.getfield 18, 3) := by decide +kernel
theorem dX9_closes_71 : decode cX9_closes 71 = .ok (.iload_n 3, 1) := by decide +kernel
theorem dX9_closes_72 : decode cX9_closes 72 = .ok (.iload 7, 2) := by decide +kernel
theorem dX9_closes_74 : decode cX9_closes 74 = .ok (.iastore, 1) := by decide +kernel
theorem dX9_closes_75 : decode cX9_closes 75 = .ok (.aload_n 0, 1) := by decide +kernel
theorem dX9_closes_76 : decode cX9_closes 76 = .ok (.aload_n 1, 1) := by decide +kernel
theorem dX9_closes_77 : decode cX9_closes 77 = .ok (.iload_n 2, 1) := by decide +kernel
theorem dX9_closes_78 : decode cX9_closes 78 = .ok (.iload_n 3, 1) := by decide +kernel
theorem dX9_closes_79 : decode cX9_closes 79 = .ok (.iconst 1, 1) := by decide +kernel
theorem dX9_closes_80 : decode cX9_closes 80 = .ok (.iadd, 1) := by decide +kernel
theorem dX9_closes_81 : decode cX9_closes 81 = .ok (.iload 4, 2) := by decide +kernel
theorem dX9_closes_83 : decode cX9_closes 83 = .ok (.iload 6, 2) := by decide +kernel
theorem dX9_closes_85 : decode cX9_closes 85 = .ok (.ior, 1) := by decide +kernel
theorem dX9_closes_86 : decode cX9_closes 86 = .ok (.iconst 1, 1) := by decide +kernel
theorem dX9_closes_87 : decode cX9_closes 87 = .ok (.iload 7, 2) := by decide +kernel
theorem dX9_closes_89 : decode cX9_closes 89 = .ok (.ishl, 1) := by decide +kernel
theorem dX9_closes_90 : decode cX9_closes 90 = .ok (.ior, 1) := by decide +kernel
theorem dX9_closes_91 : decode cX9_closes 91 = .ok (.invokestatic 45, 3) := by decide +kernel
theorem dX9_closes_94 : decode cX9_closes 94 = .ok (.ifCond .eq 5, 3) := by decide +kernel
theorem dX9_closes_97 : decode cX9_closes 97 = .ok (.iconst 1, 1) := by decide +kernel
theorem dX9_closes_98 : decode cX9_closes 98 = .ok (.ireturn, 1) := by decide +kernel
theorem dX9_closes_99 : decode cX9_closes 99 = .ok (.iinc 7 1, 3) := by decide +kernel
theorem dX9_closes_102 : decode cX9_closes 102 = .ok (.goto (-54), 3) := by decide +kernel
theorem dX9_closes_105 : decode cX9_closes 105 = .ok (.iconst 0, 1) := by decide +kernel
theorem dX9_closes_106 : decode cX9_closes 106 = .ok (.ireturn, 1) := by decide +kernel
set_option maxRecDepth 20000 in
theorem ggX9_nextOnes_X9_above : GoodIn wsX9_nextOnes wsX9_above := goodIn_r _ [5] (by decide +kernel) (by decide +kernel)
set_option maxRecDepth 20000 in
theorem gX9_nextOnes_X9_above : GoodIn wsX9_nextOnes (va_wsS RX9 60 yX9_above wsX9_above) := goodIn_app (goodIn_of _ (by decide +kernel)) ggX9_nextOnes_X9_above
theorem dX9_nextOnes_0 : decode cX9_nextOnes 0 = .ok (.aload_n 0, 1) := by decide +kernel
theorem dX9_nextOnes_1 : decode cX9_nextOnes 1 = .ok (.getfield 18, 3) := by decide +kernel
theorem dX9_nextOnes_4 : decode cX9_nextOnes 4 = .ok (.iconst 0, 1) := by decide +kernel
theorem dX9_nextOnes_5 : decode cX9_nextOnes 5 = .ok (.iaload, 1) := by decide +kernel
theorem dX9_nextOnes_6 : decode cX9_nextOnes 6 = .ok (.istore 4, 2) := by decide +kernel
theorem dX9_nextOnes_8 : decode cX9_nextOnes 8 = .ok (.aload_n 1, 1) := by decide +kernel
theorem dX9_nextOnes_9 : decode cX9_nextOnes 9 = .ok (.getfield 53, 3) := by decide +kernel
theorem dX9_nextOnes_12 : decode cX9_nextOnes 12 = .ok (.aload_n 0, 1) := by decide +kernel
theorem dX9_nextOnes_13 : decode cX9_nextOnes 13 = .ok (.getfield 18, 3) := by decide +kernel
theorem dX9_nextOnes_16 : decode cX9_nextOnes 16 = .ok (.iload_n 3, 1) := by decide +kernel
theorem dX9_nextOnes_17 : decode cX9_nextOnes 17 = .ok (.iconst 1, 1) := by decide +kernel
theorem dX9_nextOnes_18 : decode cX9_nextOnes 18 = .ok (.isub, 1) := by decide +kernel
theorem dX9_nextOnes_19 : decode cX9_nextOnes 19 = .ok (.iaload, 1) := by decide +kernel
theorem dX9_nextOnes_20 : decode cX9_nextOnes 20 = .ok (.iaload, 1) := by decide +kernel
theorem dX9_nextOnes_21 : decode cX9_nextOnes 21 = .ok (.iload 4, 2) := by decide +kernel
theorem dX9_nextOnes_23 : decode cX9_nextOnes 23 = .ok (.invokestatic 60, 3) := by decide +kernel
theorem dX9_nextOnes_26 : decode cX9_nextOnes 26 = .ok (.iand, 1) := by decide +kernel
theorem dX9_nextOnes_27 : decode cX9_nextOnes 27 = .ok (.istore 5, 2) := by decide +kernel
theorem dX9_nextOnes_29 : decode cX9_nextOnes 29 = .ok (.iload_n 3, 1) := by decide +kernel
theorem dX9_nextOnes_30 : decode cX9_nextOnes 30 = .ok (.iconst 1, 1) := by decide +kernel
theorem dX9_nextOnes_31 : decode cX9_nextOnes 31 = .ok (.if_icmp .ne 6, 3) := by decide +kernel
theorem dX9_nextOnes_34 : decode cX9_nextOnes 34 = .ok (.iload 5, 2) := by decide +kernel
theorem dX9_nextOnes_36 : decode cX9_nextOnes 36 = .ok (.ireturn, 1) := by decide +kernel
theorem dX9_nextOnes_37 : decode cX9_nextOnes 37 = .ok (.iload_n 3, 1) := by decide +kernel
theorem dX9_nextOnes_38 : decode cX9_nextOnes 38 = .ok (.iload_n 2, 1) := by decide +kernel
theorem dX9_nextOnes_39 : decode cX9_nextOnes 39 = .ok (.iconst 1, 1) := by decide +kernel
theorem dX9_nextOnes_40 : decode cX9_nextOnes 40 = .ok (.isub, 1) := by decide +kernel
theorem dX9_nextOnes_41 : decode cX9_nextOnes 41 = .ok (.if_icmp .ne 24, 3) := by decide +kernel
theorem dX9_nextOnes_44 : decode cX9_nextOnes 44 = .ok (.iload 5, 2) := by decide +kernel
theorem dX9_nextOnes_46 : decode cX9_nextOnes 46 = .ok (.aload_n 1, 1) := by decide +kernel
theorem dX9_nextOnes_47 : decode cX9_nextOnes 47 = .ok (.getfield 53, 3) := by decide +kernel
theorem dX9_nextOnes_50 : decode cX9_nextOnes 50 = .ok (.iload 4, 2) := by decide +kernel
theorem dX9_nextOnes_52 : decode cX9_nextOnes 52 = .ok (.iaload, 1) := by decide +kernel
theorem dX9_nextOnes_53 : decode cX9_nextOnes 53 = .ok (.iand, 1) := by decide +kernel
theorem dX9_nextOnes_54 : decode cX9_nextOnes 54 = .ok (.aload_n 0, 1) := by decide +kernel
theorem dX9_nextOnes_55 : decode cX9_nextOnes 55 = .ok (.getfield 18, 3) := by decide +kernel
theorem dX9_nextOnes_58 : decode cX9_nextOnes 58 = .ok (.iconst 1, 1) := by decide +kernel
theorem dX9_nextOnes_59 : decode cX9_nextOnes 59 = .ok (.iaload, 1) := by decide +kernel
theorem dX9_nextOnes_60 : decode cX9_nextOnes 60 = .ok (.invokestatic 60, 3) := by decide +kernel
theorem dX9_nextOnes_63 : decode cX9_nextOnes 63 = .ok (.iand, 1) := by decide +kernel
theorem dX9_nextOnes_64 : decode cX9_nextOnes 64 = .ok (.ireturn, 1) := by decide +kernel
theorem dX9_nextOnes_65 : decode cX9_nextOnes 65 = .ok (.iload 5, 2) := by decide +kernel
theorem dX9_nextOnes_67 : decode cX9_nextOnes 67 = .ok (.aload_n 1, 1) := by decide +kernel
theorem dX9_nextOnes_68 : decode cX9_nextOnes 68 = .ok (.getfield 53, 3) := by decide +kernel
theorem dX9_nextOnes_71 : decode cX9_nextOnes 71 = .ok (.iload 4, 2) := by decide +kernel
theorem dX9_nextOnes_73 : decode cX9_nextOnes 73 = .ok (.iaload, 1) := by decide +kernel
theorem dX9_nextOnes_74 : decode cX9_nextOnes 74 = .ok (.iconst (-1), 1) := by decide +kernel
theorem dX9_nextOnes_75 : decode cX9_nextOnes 75 = .ok (.ixor, 1) := by decide +kernel
theorem dX9_nextOnes_76 : decode cX9_nextOnes 76 = .ok (.iand, 1) := by decide +kernel
theorem dX9_nextOnes_77 : decode cX9_nextOnes 77 = .ok (.ireturn, 1) := by decide +kernel
theorem dX9_above_0 : decode cX9_above 0 = .ok (.iconst 2, 1) := by decide +kernel
theorem dX9_above_1 : decode cX9_above 1 = .ok (.iload_n 0, 1) := by decide +kernel
theorem dX9_above_2 : decode cX9_above 2 = .ok (.ishl, 1) := by decide +kernel
theorem dX9_above_3 : decode cX9_above 3 = .ok (.iconst 1, 1) := by decide +kernel
theorem dX9_above_4 : decode cX9_above 4 = .ok (.isub, 1) := by decide +kernel
theorem dX9_above_5 : decode cX9_above 5 = .ok (.iconst (-1), 1) := by decide +kernel
theorem dX9_above_6 : decode cX9_above 6 = .ok (.ixor, 1) := by decide +kernel
theorem dX9_above_7 : decode cX9_above 7 = .ok (.ireturn, 1) := by decide +kernel
set_option maxRecDepth 20000 in
theorem ggX10_init_J7_fill_53178 : GoodIn wsX10_init wsJ7_fill_53178 := goodIn_r _ [11] (by decide +kernel) (by decide +kernel)
set_option maxRecDepth 20000 in
theorem gX10_init_J7_fill_53178 : GoodIn wsX10_init (va_wsS RX10 22 yJ7_fill_53178 wsJ7_fill_53178) := goodIn_app (goodIn_of _ (by decide +kernel)) ggX10_init_J7_fill_53178
theorem dX10_init_0 : decode cX10_init 0 = .ok (.aload_n 0, 1) := by decide +kernel
theorem dX10_init_1 : decode cX10_init 1 = .ok (.invokespecial 3, 3) := by decide +kernel
theorem dX10_init_4 : decode cX10_init 4 = .ok (.aload_n 0, 1) := by decide +kernel
theorem dX10_init_5 : decode cX10_init 5 = .ok (.bipush 12, 2) := by decide +kernel
theorem dX10_init_7 : decode cX10_init 7 = .ok (.newarray .int, 2) := by decide +kernel
theorem dX10_init_9 : decode cX10_init 9 = .ok (.putfield 9, 3) := by decide +kernel
theorem dX10_init_12 : decode cX10_init 12 = .ok (.aload_n 0, 1) := by decide +kernel
theorem dX10_init_13 : decode cX10_init 13 = .ok (.iconst 0, 1) := by decide +kernel
theorem dX10_init_14 : decode cX10_init 14 = .ok (.putfield 15, 3) := by decide +kernel
theorem dX10_init_17 : decode cX10_init 17 = .ok (.aload_n 0, 1) := by decide +kernel
theorem dX10_init_18 : decode cX10_init 18 = .ok (.iconst 0, 1) := by decide +kernel
theorem dX10_init_19 : decode cX10_init 19 = .ok (.putfield 19, 3) := by decide +kernel
theorem dX10_init_22 : decode cX10_init 22 = .ok (.aload_n 0, 1) := by decide +kernel
theorem dX10_init_23 : decode cX10_init 23 = .ok (.getfield 9, 3) := by decide +kernel
theorem dX10_init_26 : decode cX10_init 26 = .ok (.iconst (-1), 1) := by decide +kernel
theorem dX10_init_27 : decode cX10_init 27 = .ok (.invokestatic 22, 3) := by decide +kernel
theorem dX10_init_30 : decode cX10_init 30 = .ok (.return_, 1) := by decide +kernel
set_option maxRecDepth 20000 in
theorem ggX10_restart_J7_fill_53178 : GoodIn wsX10_restart wsJ7_fill_53178 := goodIn_r _ [7] (by decide +kernel) (by decide +kernel)
set_option maxRecDepth 20000 in
theorem gX10_restart_J7_fill_53178 : GoodIn wsX10_restart (va_wsS RX10 22 yJ7_fill_53178 wsJ7_fill_53178) := goodIn_app (goodIn_of _ (by decide +kernel)) ggX10_restart_J7_fill_53178
theorem dX10_restart_0 : decode cX10_restart 0 = .ok (.aload_n 0, 1) := by decide +kernel
theorem dX10_restart_1 : decode cX10_restart 1 = .ok (.iload_n 1, 1) := by decide +kernel
theorem dX10_restart_2 : decode cX10_restart 2 = .ok (.putfield 15, 3) := by decide +kernel
theorem dX10_restart_5 : decode cX10_restart 5 = .ok (.aload_n 0, 1) := by decide +kernel
theorem dX10_restart_6 : decode cX10_restart 6 = .ok (.getfield 9, 3) := by decide +kernel
theorem dX10_restart_9 : decode cX10_restart 9 = .ok (.iconst (-1), 1) := by decide +kernel
theorem dX10_restart_10 : decode cX10_restart 10 = .ok (.invokestatic 22, 3) := by decide +kernel
theorem dX10_restart_13 : decode cX10_restart 13 = .ok (.aload_n 0, 1) := by decide +kernel
theorem dX10_restart_14 : decode cX10_restart 14 = .ok (.dup, 1) := by decide +kernel
theorem dX10_restart_15 : decode cX10_restart 15 = .ok (.getfield 19, 3) := by decide +kernel
theorem dX10_restart_18 : decode cX10_restart 18 = .ok (.iconst 1, 1) := by decide +kernel
theorem dX10_restart_19 : decode cX10_restart 19 = .ok (.iadd, 1) := by decide +kernel
theorem dX10_restart_20 : decode cX10_restart 20 = .ok (.putfield 19, 3) := by decide +kernel
theorem dX10_restart_23 : decode cX10_restart 23 = .ok (.return_, 1) := by decide +kernel
theorem dX10_hasPlace_0 : decode cX10_hasPlace 0 = .ok (.iload_n 1, 1) := by decide +kernel
theorem dX10_hasPlace_1 : decode cX10_hasPlace 1 = .ok (.ifCond .lt 13, 3) := by decide +kernel
theorem dX10_hasPlace_4 : decode cX10_hasPlace 4 = .ok (.iload_n 1, 1) := by decide +kernel
theorem dX10_hasPlace_5 : decode cX10_hasPlace 5 = .ok (.bipush 12, 2) := by decide +kernel
theorem dX10_hasPlace_7 : decode cX10_hasPlace 7 = .ok (.if_icmp .ge 7, 3) := by decide +kernel
theorem dX10_hasPlace_10 : decode cX10_hasPlace 10 = .ok (.iconst 1, 1) := by decide +kernel
theorem dX10_hasPlace_11 : decode cX10_hasPlace 11 = .ok (.goto 4, 3) := by decide +kernel
theorem dX10_hasPlace_14 : decode cX10_hasPlace 14 = .ok (.iconst 0, 1) := by decide +kernel
theorem dX10_hasPlace_15 : decode cX10_hasPlace 15 = .ok (.ireturn, 1) := by decide +kernel
theorem dX10_hasRun_0 : decode cX10_hasRun 0 = .ok (.iload_n 1, 1) := by decide +kernel
theorem dX10_hasRun_1 : decode cX10_hasRun 1 = .ok (.ifCond .lt 25, 3) := by decide +kernel
theorem dX10_hasRun_4 : decode cX10_hasRun 4 = .ok (.iload_n 2, 1) := by decide +kernel
theorem dX10_hasRun_5 : decode cX10_hasRun 5 = .ok (.ifCond .lt 21, 3) := by decide +kernel
theorem dX10_hasRun_8 : decode cX10_hasRun 8 = .ok (.iload_n 1, 1) := by decide +kernel
theorem dX10_hasRun_9 : decode cX10_hasRun 9 = .ok (.bipush 12, 2) := by decide +kernel
theorem dX10_hasRun_11 : decode cX10_hasRun 11 = .ok (.if_icmp .gt 15, 3) := by decide +kernel
theorem dX10_hasRun_14 : decode cX10_hasRun 14 = .ok (.iload_n 2, 1) := by decide +kernel
theorem dX10_hasRun_15 : decode cX10_hasRun 15 = .ok (.bipush 12, 2) := by decide +kernel
theorem dX10_hasRun_17 : decode cX10_hasRun 17 = .ok (.iload_n 1, 1) := by decide +kernel
theorem dX10_hasRun_18 : decode cX10_hasRun 18 = .ok (.isub, 1) := by decide +kernel
theorem dX10_hasRun_19 : decode cX10_hasRun 19 = .ok (.if_icmp .gt 7, 3) := by decide +kernel
theorem dX10_hasRun_22 : decode cX10_hasRun 22 = .ok (.iconst 1, 1) := by decide +kernel
theorem dX10_hasRun_23 : decode cX10_hasRun 23 = .ok (.goto 4, 3) := by decide +kernel
theorem dX10_hasRun_26 : decode cX10_hasRun 26 = .ok (.iconst 0, 1) := by decide +kernel
theorem dX10_hasRun_27 : decode cX10_hasRun 27 = .ok (.ireturn, 1) := by decide +kernel
theorem dX10_put_0 : decode cX10_put 0 = .ok (.aload_n 0, 1) := by decide +kernel
theorem dX10_put_1 : decode cX10_put 1 = .ok (.getfield 9, 3) := by decide +kernel
theorem dX10_put_4 : decode cX10_put 4 = .ok (.iload_n 1, 1) := by decide +kernel
theorem dX10_put_5 : decode cX10_put 5 = .ok (.iload_n 2, 1) := by decide +kernel
theorem dX10_put_6 : decode cX10_put 6 = .ok (.iastore, 1) := by decide +kernel
theorem dX10_put_7 : decode cX10_put 7 = .ok (.aload_n 0, 1) := by decide +kernel
theorem dX10_put_8 : decode cX10_put 8 = .ok (.dup, 1) := by decide +kernel
theorem dX10_put_9 : decode cX10_put 9 = .ok (.getfield 19, 3) := by decide +kernel
theorem dX10_put_12 : decode cX10_put 12 = .ok (.iconst 1, 1) := by decide +kernel
theorem dX10_put_13 : decode cX10_put 13 = .ok (.iadd, 1) := by decide +kernel
theorem dX10_put_14 : decode cX10_put 14 = .ok (.putfield 19, 3) := by decide +kernel
theorem dX10_put_17 : decode cX10_put 17 = .ok (.return_, 1) := by decide +kernel
theorem dX10_move_0 : decode cX10_move 0 = .ok (.aload_n 0, 1) := by decide +kernel
theorem dX10_move_1 : decode cX10_move 1 = .ok (.getfield 9, 3) := by decide +kernel
theorem dX10_move_4 : decode cX10_move 4 = .ok (.iload_n 1, 1) := by decide +kernel
theorem dX10_move_5 : decode cX10_move 5 = .ok (.aload_n 0, 1) := by decide +kernel
theorem dX10_move_6 : decode cX10_move 6 = .ok (.getfield 9, 3) := by decide +kernel
theorem dX10_move_9 : decode cX10_move 9 = .ok (.iload_n 2, 1) := by decide +kernel
theorem dX10_move_10 : decode cX10_move 10 = .ok (.iload_n 3, 1) := by decide +kernel
theorem dX10_move_11 : decode cX10_move 11 = .ok (.invokestatic 28, 3) := by decide +kernel
theorem dX10_move_14 : decode cX10_move 14 = .ok (.aload_n 0, 1) := by decide +kernel
theorem dX10_move_15 : decode cX10_move 15 = .ok (.dup, 1) := by decide +kernel
theorem dX10_move_16 : decode cX10_move 16 = .ok (.getfield 19, 3) := by decide +kernel
theorem dX10_move_19 : decode cX10_move 19 = .ok (.iconst 1, 1) := by decide +kernel
theorem dX10_move_20 : decode cX10_move 20 = .ok (.iadd, 1) := by decide +kernel
theorem dX10_move_21 : decode cX10_move 21 = .ok (.putfield 19, 3) := by decide +kernel
theorem dX10_move_24 : decode cX10_move 24 = .ok (.return_, 1) := by decide +kernel
theorem dX10_present_0 : decode cX10_present 0 = .ok (.iconst 0, 1) := by decide +kernel
theorem dX10_present_1 : decode cX10_present 1 = .ok (.istore_n 1, 1) := by decide +kernel
theorem dX10_present_2 : decode cX10_present 2 = .ok (.iconst 0, 1) := by decide +kernel
theorem dX10_present_3 : decode cX10_present 3 = .ok (.istore_n 2, 1) := by decide +kernel
theorem dX10_present_4 : decode cX10_present 4 = .ok (.iload_n 2, 1) := by decide +kernel
theorem dX10_present_5 : decode cX10_present 5 = .ok (.bipush 12, 2) := by decide +kernel
theorem dX10_present_7 : decode cX10_present 7 = .ok (.if_icmp .ge 22, 3) := by decide +kernel
theorem dX10_present_10 : decode cX10_present 10 = .ok (.aload_n 0, 1) := by decide +kernel
theorem dX10_present_11 : decode cX10_present 11 = .ok (.getfield 9, 3) := by decide +kernel
theorem dX10_present_14 : decode cX10_present 14 = .ok (.iload_n 2, 1) := by decide +kernel
theorem dX10_present_15 : decode cX10_present 15 = .ok (.iaload, 1) := by decide +kernel
theorem dX10_present_16 : decode cX10_present 16 = .ok (.iconst (-1), 1) := by decide +kernel
theorem dX10_present_17 : decode cX10_present 17 = .ok (.if_icmp .eq 6, 3) := by decide +kernel
theorem dX10_present_20 : decode cX10_present 20 = .ok (.iinc 1 1, 3) := by decide +kernel
theorem dX10_present_23 : decode cX10_present 23 = .ok (.iinc 2 1, 3) := by decide +kernel
theorem dX10_present_26 : decode cX10_present 26 = .ok (.goto (-22), 3) := by decide +kernel
theorem dX10_present_29 : decode cX10_present 29 = .ok (.iload_n 1, 1) := by decide +kernel
theorem dX10_present_30 : decode cX10_present 30 = .ok (.ireturn, 1) := by decide +kernel
set_option maxRecDepth 20000 in
theorem ggX11_init_X4_init : GoodIn wsX11_init wsX4_init := goodIn_r _ [46, 47, 2, 3, 42, 48, 49, 50, 153, 154, 155] (by decide +kernel) (by decide +kernel)
set_option maxRecDepth 20000 in
theorem gX11_init_X4_init_n9 : GoodIn wsX11_init (wsX4_init) := ggX11_init_X4_init
set_option maxRecDepth 20000 in
theorem ggX11_init_X10_init : GoodIn wsX11_init wsX10_init := goodIn_r _ [52, 53, 2, 3, 42, 54, 55, 56, 57, 58, 59, 60, 169, 170, 171] (by decide +kernel) (by decide +kernel)
set_option maxRecDepth 20000 in
theorem gX11_init_X10_init_n18 : GoodIn wsX11_init (wsX10_init) := ggX11_init_X10_init
set_option maxRecDepth 20000 in
theorem ggX11_init_X6_init : GoodIn wsX11_init wsX6_init := goodIn_r _ [62, 63, 2, 3, 64, 65, 66, 67, 68, 69, 70, 71, 42, 72, 73, 74, 75, 76, 77, 78, 79, 80, 81, 82, 83, 84, 85, 86, 87, 88, 89, 90, 91, 92, 93, 94, 95, 214, 215, 172, 173, 174, 175, 176, 177, 178, 179, 180, 216, 217, 218, 219, 220, 221] (by decide +kernel) (by decide +kernel)
set_option maxRecDepth 20000 in
theorem gX11_init_X6_init_n25 : GoodIn wsX11_init (wsX6_init) := ggX11_init_X6_init
set_option maxRecDepth 20000 in
theorem ggX11_init_X9_init : GoodIn wsX11_init wsX9_init := goodIn_r _ [97, 98, 2, 3, 99, 65, 66, 100, 42, 101, 102, 103, 79, 80, 81, 82, 83, 84, 214, 215, 181, 182, 183, 184] (by decide +kernel) (by decide +kernel)
set_option maxRecDepth 20000 in
theorem gX11_init_X9_init_n32 : GoodIn wsX11_init (wsX9_init) := ggX11_init_X9_init
set_option maxRecDepth 20000 in
theorem ggX11_init_X1_init : GoodIn wsX11_init wsX1_init := goodIn_r _ [105, 106, 2, 3, 42, 107, 108, 109, 110, 111, 112, 113, 114, 185, 186, 187, 188, 189, 190, 191, 192] (by decide +kernel) (by decide +kernel)
set_option maxRecDepth 20000 in
theorem gX11_init_X1_init_n39 : GoodIn wsX11_init (wsX1_init) := ggX11_init_X1_init
set_option maxRecDepth 20000 in
theorem ggX11_init_X7_init : GoodIn wsX11_init wsX7_init := goodIn_r _ [116, 117, 2, 3, 42, 118, 119, 120, 121, 193, 194, 195, 196] (by decide +kernel) (by decide +kernel)
set_option maxRecDepth 20000 in
theorem gX11_init_X7_init_n51 : GoodIn wsX11_init (wsX7_init) := ggX11_init_X7_init
set_option maxRecDepth 20000 in
theorem ggX11_init_X8_init : GoodIn wsX11_init wsX8_init := goodIn_r _ [123, 124, 2, 3, 42, 125, 126, 127, 128, 129, 197, 198, 199, 200, 201] (by decide +kernel) (by decide +kernel)
set_option maxRecDepth 20000 in
theorem gX11_init_X8_init_n58 : GoodIn wsX11_init (wsX8_init) := ggX11_init_X8_init
set_option maxRecDepth 20000 in
theorem ggX11_init_X2_init : GoodIn wsX11_init wsX2_init := goodIn_r _ [131, 132, 2, 3, 133, 42, 134, 135, 136, 137, 202, 203, 204, 205] (by decide +kernel) (by decide +kernel)
set_option maxRecDepth 20000 in
theorem gX11_init_X2_init_n65 : GoodIn wsX11_init (wsX2_init) := ggX11_init_X2_init
set_option maxRecDepth 20000 in
theorem ggX11_init_X0_init : GoodIn wsX11_init wsX0_init := goodIn_r _ [139, 140, 2, 3, 141, 142, 143, 144, 42, 145, 146, 147, 148, 149, 150, 151, 152, 206, 207, 208, 209, 210, 211, 212, 213] (by decide +kernel) (by decide +kernel)
set_option maxRecDepth 20000 in
theorem gX11_init_X0_init_n72 : GoodIn wsX11_init (wsX0_init) := ggX11_init_X0_init
theorem dX11_init_0 : decode cX11_init 0 = .ok (.aload_n 0, 1) := by decide +kernel
theorem dX11_init_1 : decode cX11_init 1 = .ok (.invokespecial 1, 3) := by decide +kernel
theorem dX11_init_4 : decode cX11_init 4 = .ok (.aload_n 0, 1) := by decide +kernel
theorem dX11_init_5 : decode cX11_init 5 = .ok (.new 7, 3) := by decide +kernel
theorem dX11_init_8 : decode cX11_init 8 = .ok (.dup, 1) := by decide +kernel
theorem dX11_init_9 : decode cX11_init 9 = .ok (.invokespecial 9, 3) := by decide +kernel
theorem dX11_init_12 : decode cX11_init 12 = .ok (.putfield 10, 3) := by decide +kernel
theorem dX11_init_15 : decode cX11_init 15 = .ok (.aload_n 0, 1) := by decide +kernel
theorem dX11_init_16 : decode cX11_init 16 = .ok (.new 16, 3) := by decide +kernel
theorem dX11_init_19 : decode cX11_init 19 = .ok (.dup, 1) := by decide +kernel
theorem dX11_init_20 : decode cX11_init 20 = .ok (.invokespecial 18, 3) := by decide +kernel
theorem dX11_init_23 : decode cX11_init 23 = .ok (.putfield 19, 3) := by decide +kernel
theorem dX11_init_26 : decode cX11_init 26 = .ok (.aload_n 0, 1) := by decide +kernel
theorem dX11_init_27 : decode cX11_init 27 = .ok (.new 23, 3) := by decide +kernel
theorem dX11_init_30 : decode cX11_init 30 = .ok (.dup, 1) := by decide +kernel
theorem dX11_init_31 : decode cX11_init 31 = .ok (.invokespecial 25, 3) := by decide +kernel
theorem dX11_init_34 : decode cX11_init 34 = .ok (.putfield 26, 3) := by decide +kernel
theorem dX11_init_37 : decode cX11_init 37 = .ok (.aload_n 0, 1) := by decide +kernel
theorem dX11_init_38 : decode cX11_init 38 = .ok (.new 30, 3) := by decide +kernel
theorem dX11_init_41 : decode cX11_init 41 = .ok (.dup, 1) := by decide +kernel
theorem dX11_init_42 : decode cX11_init 42 = .ok (.invokespecial 32, 3) := by decide +kernel
theorem dX11_init_45 : decode cX11_init 45 = .ok (.putfield 33, 3) := by decide +kernel
theorem dX11_init_48 : decode cX11_init 48 = .ok (.aload_n 0, 1) := by decide +kernel
theorem dX11_init_49 : decode cX11_init 49 = .ok (.new 37, 3) := by decide +kernel
theorem dX11_init_52 : decode cX11_init 52 = .ok (.dup, 1) := by decide +kernel
theorem dX11_init_53 : decode cX11_init 53 = .ok (.iconst 0, 1) := by decide +kernel
theorem dX11_init_54 : decode cX11_init 54 = .ok (.invokespecial 39, 3) := by decide +kernel
theorem dX11_init_57 : decode cX11_init 57 = .ok (.putfield 42, 3) := by decide +kernel
theorem dX11_init_60 : decode cX11_init 60 = .ok (.aload_n 0, 1) := by decide +kernel
theorem dX11_init_61 : decode cX11_init 61 = .ok (.new 37, 3) := by decide +kernel
theorem dX11_init_64 : decode cX11_init 64 = .ok (.dup, 1) := by decide +kernel
theorem dX11_init_65 : decode cX11_init 65 = .ok (.iconst 1, 1) := by decide +kernel
theorem dX11_init_66 : decode cX11_init 66 = .ok (.invokespecial 39, 3) := by decide +kernel
theorem dX11_init_69 : decode cX11_init 69 = .ok (.putfield 46, 3) := by decide +kernel
theorem dX11_init_72 : decode cX11_init 72 = .ok (.aload_n 0, 1) := by decide +kernel
theorem dX11_init_73 : decode cX11_init 73 = .ok (.new 49, 3) := by decide +kernel
theorem dX11_init_76 : decode cX11_init 76 = .ok (.dup, 1) := by decide +kernel
theorem dX11_init_77 : decode cX11_init 77 = .ok (.invokespecial 51, 3) := by decide +kernel
theorem dX11_init_80 : decode cX11_init 80 = .ok (.putfield 52, 3) := by decide +kernel
theorem dX11_init_83 : decode cX11_init 83 = .ok (.aload_n 0, 1) := by decide +kernel
theorem dX11_init_84 : decode cX11_init 84 = .ok (.new 56, 3) := by decide +kernel
theorem dX11_init_87 : decode cX11_init 87 = .ok (.dup, 1) := by decide +kernel
theorem dX11_init_88 : decode cX11_init 88 = .ok (.invokespecial 58, 3) := by decide +kernel
theorem dX11_init_91 : decode cX11_init 91 = .ok (.putfield 59, 3) := by decide +kernel
theorem dX11_init_94 : decode cX11_init 94 = .ok (.aload_n 0, 1) := by decide +kernel
theorem dX11_init_95 : decode cX11_init 95 = .ok (.new 63, 3) := by decide +kernel
theorem dX11_init_98 : decode cX11_init 98 = .ok (.dup, 1) := by decide +kernel
theorem dX11_init_99 : decode cX11_init 99 = .ok (.invokespecial 65, 3) := by decide +kernel
theorem dX11_init_102 : decode cX11_init 102 = .ok (.putfield 66, 3) := by decide +kernel
theorem dX11_init_105 : decode cX11_init 105 = .ok (.aload_n 0, 1) := by decide +kernel
theorem dX11_init_106 : decode cX11_init 106 = .ok (.new 70, 3) := by decide +kernel
theorem dX11_init_109 : decode cX11_init 109 = .ok (.dup, 1) := by decide +kernel
theorem dX11_init_110 : decode cX11_init 110 = .ok (.bipush 12, 2) := by decide +kernel
theorem dX11_init_112 : decode cX11_init 112 = .ok (.invokespecial 72, 3) := by decide +kernel
theorem dX11_init_115 : decode cX11_init 115 = .ok (.putfield 75, 3) := by decide +kernel
theorem dX11_init_118 : decode cX11_init 118 = .ok (.aload_n 0, 1) := by decide +kernel
theorem dX11_init_119 : decode cX11_init 119 = .ok (.new 70, 3) := by decide +kernel
theorem dX11_init_122 : decode cX11_init 122 = .ok (.dup, 1) := by decide +kernel
theorem dX11_init_123 : decode cX11_init 123 = .ok (.bipush 8, 2) := by decide +kernel
theorem dX11_init_125 : decode cX11_init 125 = .ok (.invokespecial 72, 3) := by decide +kernel
theorem dX11_init_128 : decode cX11_init 128 = .ok (.putfield 79, 3) := by decide +kernel
theorem dX11_init_131 : decode cX11_init 131 = .ok (.aload_n 0, 1) := by decide +kernel
theorem dX11_init_132 : decode cX11_init 132 = .ok (.iconst 5, 1) := by decide +kernel
theorem dX11_init_133 : decode cX11_init 133 = .ok (.newarray .int, 2) := by decide +kernel
theorem dX11_init_135 : decode cX11_init 135 = .ok (.putfield 82, 3) := by decide +kernel
theorem dX11_init_138 : decode cX11_init 138 = .ok (.aload_n 0, 1) := by decide +kernel
theorem dX11_init_139 : decode cX11_init 139 = .ok (.iconst 0, 1) := by decide +kernel
theorem dX11_init_140 : decode cX11_init 140 = .ok (.putfield 86, 3) := by decide +kernel
theorem dX11_init_143 : decode cX11_init 143 = .ok (.return_, 1) := by decide +kernel
set_option maxRecDepth 20000 in
theorem ggX11_nodes_X11_startGraph : GoodIn wsX11_nodes wsX11_startGraph := goodIn_r _ [5, 6, 7, 8, 9, 10, 11, 12, 13, 14, 15, 16, 17, 18, 19, 20, 21, 22, 23, 24, 25, 26, 27, 28, 29, 30, 31, 32, 4, 33, 34, 35, 36, 37, 38, 39, 40, 41, 42, 43, 44, 45, 46, 47, 48, 49, 50, 51, 52, 53, 54, 55, 56, 57, 58] (by decide +kernel) (by decide +kernel)
set_option maxRecDepth 20000 in
theorem gX11_nodes_X11_startGraph : GoodIn wsX11_nodes (wsV RX11 90 RX11 yX11_startGraph wsX11_startGraph) := goodIn_app (goodIn_of _ (by decide +kernel)) ggX11_nodes_X11_startGraph
theorem dX11_nodes_0 : decode cX11_nodes 0 = .ok (.iload_n 1, 1) := by decide +kernel
theorem dX11_nodes_1 : decode cX11_nodes 1 = .ok (.ifCond .lt 9, 3) := by decide +kernel
theorem dX11_nodes_4 : decode cX11_nodes 4 = .ok (.iload_n 1, 1) := by decide +kernel
theorem dX11_nodes_5 : decode cX11_nodes 5 = .ok (.bipush 12, 2) := by decide +kernel
theorem dX11_nodes_7 : decode cX11_nodes 7 = .ok (.if_icmp .le 5, 3) := by decide +kernel
theorem dX11_nodes_10 : decode cX11_nodes 10 = .ok (.iconst (-1), 1) := by decide +kernel
theorem dX11_nodes_11 : decode cX11_nodes 11 = .ok (.ireturn, 1) := by decide +kernel
theorem dX11_nodes_12 : decode cX11_nodes 12 = .ok (.aload_n 0, 1) := by decide +kernel
theorem dX11_nodes_13 : decode cX11_nodes 13 = .ok (.iload_n 1, 1) := by decide +kernel
theorem dX11_nodes_14 : decode cX11_nodes 14 = .ok (.invokevirtual 90, 3) := by decide +kernel
theorem dX11_nodes_17 : decode cX11_nodes 17 = .ok (.iload_n 1, 1) := by decide +kernel
theorem dX11_nodes_18 : decode cX11_nodes 18 = .ok (.ireturn, 1) := by decide +kernel
set_option maxRecDepth 20000 in
theorem ggX11_join_X4_has : GoodIn wsX11_join wsX4_has := goodIn_r _ [6, 7, 37, 38, 39] (by decide +kernel) (by decide +kernel)
set_option maxRecDepth 20000 in
theorem gX11_join_X4_has_n93 : GoodIn wsX11_join (wsX4_has) := ggX11_join_X4_has
set_option maxRecDepth 20000 in
theorem ggX11_join_X4_touches : GoodIn wsX11_join wsX4_touches := goodIn_r _ [10, 11, 12, 13, 14, 37, 38, 39] (by decide +kernel) (by decide +kernel)
set_option maxRecDepth 20000 in
theorem gX11_join_X4_touches_n97 : GoodIn wsX11_join (wsX4_touches) := ggX11_join_X4_touches
set_option maxRecDepth 20000 in
theorem ggX11_join_X4_set : GoodIn wsX11_join wsX4_set := goodIn_r _ [17, 11, 18, 37, 38, 39] (by decide +kernel) (by decide +kernel)
set_option maxRecDepth 20000 in
theorem gX11_join_X4_set_n101 : GoodIn wsX11_join (wsX4_set) := ggX11_join_X4_set
set_option maxRecDepth 20000 in
theorem ggX11_join_X6_drop : GoodIn wsX11_join wsX6_drop := goodIn_r _ [22, 23, 40, 41, 42, 43, 44, 45, 46, 47, 48] (by decide +kernel) (by decide +kernel)
set_option maxRecDepth 20000 in
theorem gX11_join_X6_drop_n105 : GoodIn wsX11_join (wsX6_drop) := ggX11_join_X6_drop
theorem dX11_join_0 : decode cX11_join 0 = .ok (.aload_n 0, 1) := by decide +kernel
theorem dX11_join_1 : decode cX11_join 1 = .ok (.getfield 10, 3) := by decide +kernel
theorem dX11_join_4 : decode cX11_join 4 = .ok (.iload_n 1, 1) := by decide +kernel
theorem dX11_join_5 : decode cX11_join 5 = .ok (.invokevirtual 93, 3) := by decide +kernel
theorem dX11_join_8 : decode cX11_join 8 = .ok (.ifCond .eq 19, 3) := by decide +kernel
theorem dX11_join_11 : decode cX11_join 11 = .ok (.aload_n 0, 1) := by decide +kernel
theorem dX11_join_12 : decode cX11_join 12 = .ok (.getfield 10, 3) := by decide +kernel
theorem dX11_join_15 : decode cX11_join 15 = .ok (.iload_n 2, 1) := by decide +kernel
theorem dX11_join_16 : decode cX11_join 16 = .ok (.invokevirtual 93, 3) := by decide +kernel
theorem dX11_join_19 : decode cX11_join 19 = .ok (.ifCond .eq 8, 3) := by decide +kernel
theorem dX11_join_22 : decode cX11_join 22 = .ok (.iload_n 1, 1) := by decide +kernel
theorem dX11_join_23 : decode cX11_join 23 = .ok (.iload_n 2, 1) := by decide +kernel
theorem dX11_join_24 : decode cX11_join 24 = .ok (.if_icmp .ne 5, 3) := by decide +kernel
theorem dX11_join_27 : decode cX11_join 27 = .ok (.iconst (-1), 1) := by decide +kernel
theorem dX11_join_28 : decode cX11_join 28 = .ok (.ireturn, 1) := by decide +kernel
theorem dX11_join_29 : decode cX11_join 29 = .ok (.aload_n 0, 1) := by decide +kernel
theorem dX11_join_30 : decode cX11_join 30 = .ok (.getfield 10, 3) := by decide +kernel
theorem dX11_join_33 : decode cX11_join 33 = .ok (.iload_n 1, 1) := by decide +kernel
theorem dX11_join_34 : decode cX11_join 34 = .ok (.iload_n 2, 1) := by decide +kernel
theorem dX11_join_35 : decode cX11_join 35 = .ok (.invokevirtual 97, 3) := by decide +kernel
theorem dX11_join_38 : decode cX11_join 38 = .ok (.ifCond .eq 7, 3) := by decide +kernel
theorem dX11_join_41 : decode cX11_join 41 = .ok (.iconst 1, 1) := by decide +kernel
theorem dX11_join_42 : decode cX11_join 42 = .ok (.goto 4, 3) := by decide +kernel
theorem dX11_join_45 : decode cX11_join 45 = .ok (.iconst 0, 1) := by decide +kernel
theorem dX11_join_46 : decode cX11_join 46 = .ok (.istore 4, 2) := by decide +kernel
theorem dX11_join_48 : decode cX11_join 48 = .ok (.aload_n 0, 1) := by decide +kernel
theorem dX11_join_49 : decode cX11_join 49 = .ok (.getfield 10, 3) := by decide +kernel
theorem dX11_join_52 : decode cX11_join 52 = .ok (.iload_n 1, 1) := by decide +kernel
theorem dX11_join_53 : decode cX11_join 53 = .ok (.iload_n 2, 1) := by decide +kernel
theorem dX11_join_54 : decode cX11_join 54 = .ok (.iload_n 3, 1) := by decide +kernel
theorem dX11_join_55 : decode cX11_join 55 = .ok (.invokevirtual 101, 3) := by decide +kernel
theorem dX11_join_58 : decode cX11_join 58 = .ok (.aload_n 0, 1) := by decide +kernel
theorem dX11_join_59 : decode cX11_join 59 = .ok (.getfield 26, 3) := by decide +kernel
theorem dX11_join_62 : decode cX11_join 62 = .ok (.invokevirtual 105, 3) := by decide +kernel
theorem dX11_join_65 : decode cX11_join 65 = .ok (.iload 4, 2) := by decide +kernel
theorem dX11_join_67 : decode cX11_join 67 = .ok (.ireturn, 1) := by decide +kernel
set_option maxRecDepth 20000 in
theorem ggX11_joined_X4_has : GoodIn wsX11_joined wsX4_has := goodIn_r _ [5, 6, 20, 21, 22] (by decide +kernel) (by decide +kernel)
set_option maxRecDepth 20000 in
theorem gX11_joined_X4_has_n93 : GoodIn wsX11_joined (wsX4_has) := ggX11_joined_X4_has
theorem dX11_joined_0 : decode cX11_joined 0 = .ok (.aload_n 0, 1) := by decide +kernel
theorem dX11_joined_1 : decode cX11_joined 1 = .ok (.getfield 10, 3) := by decide +kernel
theorem dX11_joined_4 : decode cX11_joined 4 = .ok (.iload_n 1, 1) := by decide +kernel
theorem dX11_joined_5 : decode cX11_joined 5 = .ok (.invokevirtual 93, 3) := by decide +kernel
theorem dX11_joined_8 : decode cX11_joined 8 = .ok (.ifCond .eq 15, 3) := by decide +kernel
theorem dX11_joined_11 : decode cX11_joined 11 = .ok (.aload_n 0, 1) := by decide +kernel
theorem dX11_joined_12 : decode cX11_joined 12 = .ok (.getfield 10, 3) := by decide +kernel
theorem dX11_joined_15 : decode cX11_joined 15 = .ok (.getfield 108, 3) := by decide +kernel
theorem dX11_joined_18 : decode cX11_joined 18 = .ok (.iload_n 1, 1) := by decide +kernel
theorem dX11_joined_19 : decode cX11_joined 19 = .ok (.iaload, 1) := by decide +kernel
theorem dX11_joined_20 : decode cX11_joined 20 = .ok (.goto 4, 3) := by decide +kernel
theorem dX11_joined_23 : decode cX11_joined 23 = .ok (.iconst (-1), 1) := by decide +kernel
theorem dX11_joined_24 : decode cX11_joined 24 = .ok (.ireturn, 1) := by decide +kernel
set_option maxRecDepth 20000 in
theorem ggX11_kind_X4_has : GoodIn wsX11_kind wsX4_has := goodIn_r _ [5, 6, 34, 35, 36] (by decide +kernel) (by decide +kernel)
set_option maxRecDepth 20000 in
theorem gX11_kind_X4_has_n93 : GoodIn wsX11_kind (wsX4_has) := ggX11_kind_X4_has
set_option maxRecDepth 20000 in
theorem ggX11_kind_X11_isKind : GoodIn wsX11_kind wsX11_isKind := goodIn_r _ [11, 1, 12, 3, 13, 14, 6, 15, 16, 10, 17, 18, 19, 20, 21, 22, 23, 24, 25, 26, 27, 28, 29, 30, 31, 32, 33, 34, 35, 36] (by decide +kernel) (by decide +kernel)
set_option maxRecDepth 20000 in
theorem gX11_kind_X11_isKind : GoodIn wsX11_kind (wsV RX11 111 RX11 yX11_isKind wsX11_isKind) := goodIn_app (goodIn_of _ (by decide +kernel)) ggX11_kind_X11_isKind
theorem dX11_kind_0 : decode cX11_kind 0 = .ok (.aload_n 0, 1) := by decide +kernel
theorem dX11_kind_1 : decode cX11_kind 1 = .ok (.getfield 10, 3) := by decide +kernel
theorem dX11_kind_4 : decode cX11_kind 4 = .ok (.iload_n 1, 1) := by decide +kernel
theorem dX11_kind_5 : decode cX11_kind 5 = .ok (.invokevirtual 93, 3) := by decide +kernel
theorem dX11_kind_8 : decode cX11_kind 8 = .ok (.ifCond .ne 5, 3) := by decide +kernel
theorem dX11_kind_11 : decode cX11_kind 11 = .ok (.iconst (-1), 1) := by decide +kernel
theorem dX11_kind_12 : decode cX11_kind 12 = .ok (.ireturn, 1) := by decide +kernel
theorem dX11_kind_13 : decode cX11_kind 13 = .ok (.aload_n 0, 1) := by decide +kernel
theorem dX11_kind_14 : decode cX11_kind 14 = .ok (.iload_n 1, 1) := by decide +kernel
theorem dX11_kind_15 : decode cX11_kind 15 = .ok (.iconst 2, 1) := by decide +kernel
theorem dX11_kind_16 : decode cX11_kind 16 = .ok (.invokevirtual 111, 3) := by decide +kernel
theorem dX11_kind_19 : decode cX11_kind 19 = .ok (.ifCond .eq 5, 3) := by decide +kernel
theorem dX11_kind_22 : decode cX11_kind 22 = .ok (.iconst 2, 1) := by decide +kernel
theorem dX11_kind_23 : decode cX11_kind 23 = .ok (.ireturn, 1) := by decide +kernel
theorem dX11_kind_24 : decode cX11_kind 24 = .ok (.aload_n 0, 1) := by decide +kernel
theorem dX11_kind_25 : decode cX11_kind 25 = .ok (.iload_n 1, 1) := by decide +kernel
theorem dX11_kind_26 : decode cX11_kind 26 = .ok (.iconst 1, 1) := by decide +kernel
theorem dX11_kind_27 : decode cX11_kind 27 = .ok (.invokevirtual 111, 3) := by decide +kernel
theorem dX11_kind_30 : decode cX11_kind 30 = .ok (.ifCond .eq 5, 3) := by decide +kernel
theorem dX11_kind_33 : decode cX11_kind 33 = .ok (.iconst 1, 1) := by decide +kernel
theorem dX11_kind_34 : decode cX11_kind 34 = .ok (.ireturn, 1) := by decide +kernel
theorem dX11_kind_35 : decode cX11_kind 35 = .ok (.aload_n 0, 1) := by decide +kernel
theorem dX11_kind_36 : decode cX11_kind 36 = .ok (.iload_n 1, 1) := by decide +kernel
theorem dX11_kind_37 : decode cX11_kind 37 = .ok (.iconst 3, 1) := by decide +kernel
theorem dX11_kind_38 : decode cX11_kind 38 = .ok (.invokevirtual 111, 3) := by decide +kernel
theorem dX11_kind_41 : decode cX11_kind 41 = .ok (.ifCond .eq 7, 3) := by decide +kernel
theorem dX11_kind_44 : decode cX11_kind 44 = .ok (.iconst 3, 1) := by decide +kernel
theorem dX11_kind_45 : decode cX11_kind 45 = .ok (.goto 4, 3) := by decide +kernel
theorem dX11_kind_48 : decode cX11_kind 48 = .ok (.iconst 0, 1) := by decide +kernel
theorem dX11_kind_49 : decode cX11_kind 49 = .ok (.ireturn, 1) := by decide +kernel
set_option maxRecDepth 20000 in
theorem ggX11_degree_X4_has : GoodIn wsX11_degree wsX4_has := goodIn_r _ [5, 6, 47, 48, 49] (by decide +kernel) (by decide +kernel)
set_option maxRecDepth 20000 in
theorem gX11_degree_X4_has_n93 : GoodIn wsX11_degree (wsX4_has) := ggX11_degree_X4_has
set_option maxRecDepth 20000 in
theorem ggX11_degree_X11_isKind : GoodIn wsX11_degree wsX11_isKind := goodIn_r _ [11, 1, 12, 3, 13, 14, 6, 15, 16, 10, 17, 18, 19, 20, 34, 35, 36, 37, 38, 39, 40, 41, 42, 43, 44, 45, 46, 47, 48, 49] (by decide +kernel) (by decide +kernel)
set_option maxRecDepth 20000 in
theorem gX11_degree_X11_isKind : GoodIn wsX11_degree (wsV RX11 111 RX11 yX11_isKind wsX11_isKind) := goodIn_app (goodIn_of _ (by decide +kernel)) ggX11_degree_X11_isKind
set_option maxRecDepth 20000 in
theorem ggX11_degree_X11_found : GoodIn wsX11_degree wsX11_found := goodIn_r _ [24, 25, 26, 34, 35, 36, 37, 38, 39, 40, 41, 42, 43, 44, 45, 46] (by decide +kernel) (by decide +kernel)
set_option maxRecDepth 20000 in
theorem gX11_degree_X11_found : GoodIn wsX11_degree (wsV RX11 114 RX11 yX11_found wsX11_found) := goodIn_app (goodIn_of _ (by decide +kernel)) ggX11_degree_X11_found
set_option maxRecDepth 20000 in
theorem ggX11_degree_J6_bitCount_0f7a4 : GoodIn wsX11_degree wsJ6_bitCount_0f7a4 := goodIn_r _ [30, 31, 32, 33] (by decide +kernel) (by decide +kernel)
set_option maxRecDepth 20000 in
theorem gX11_degree_J6_bitCount_0f7a4 : GoodIn wsX11_degree (va_wsS RX11 118 yJ6_bitCount_0f7a4 wsJ6_bitCount_0f7a4) := goodIn_app (goodIn_of _ (by decide +kernel)) ggX11_degree_J6_bitCount_0f7a4
theorem dX11_degree_0 : decode cX11_degree 0 = .ok (.aload_n 0, 1) := by decide +kernel
theorem dX11_degree_1 : decode cX11_degree 1 = .ok (.getfield 10, 3) := by decide +kernel
theorem dX11_degree_4 : decode cX11_degree 4 = .ok (.iload_n 1, 1) := by decide +kernel
theorem dX11_degree_5 : decode cX11_degree 5 = .ok (.invokevirtual 93, 3) := by decide +kernel
theorem dX11_degree_8 : decode cX11_degree 8 = .ok (.ifCond .eq 12, 3) := by decide +kernel
theorem dX11_degree_11 : decode cX11_degree 11 = .ok (.iload_n 2, 1) := by decide +kernel
theorem dX11_degree_12 : decode cX11_degree 12 = .ok (.ifCond .lt 8, 3) := by decide +kernel
theorem dX11_degree_15 : decode cX11_degree 15 = .ok (.iload_n 2, 1) := by decide +kernel
theorem dX11_degree_16 : decode cX11_degree 16 = .ok (.iconst 3, 1) := by decide +kernel
theorem dX11_degree_17 : decode cX11_degree 17 = .ok (.if_icmp .le 5, 3) := by decide +kernel
theorem dX11_degree_20 : decode cX11_degree 20 = .ok (.iconst (-1), 1) := by decide +kernel
theorem dX11_degree_21 : decode cX11_degree 21 = .ok (.ireturn, 1) := by decide +kernel
theorem dX11_degree_22 : decode cX11_degree 22 = .ok (.aload_n 0, 1) := by decide +kernel
theorem dX11_degree_23 : decode cX11_degree 23 = .ok (.iload_n 1, 1) := by decide +kernel
theorem dX11_degree_24 : decode cX11_degree 24 = .ok (.iload_n 2, 1) := by decide +kernel
theorem dX11_degree_25 : decode cX11_degree 25 = .ok (.invokevirtual 111, 3) := by decide +kernel
theorem dX11_degree_28 : decode cX11_degree 28 = .ok (.ifCond .ne 9, 3) := by decide +kernel
theorem dX11_degree_31 : decode cX11_degree 31 = .ok (.aload_n 0, 1) := by decide +kernel
theorem dX11_degree_32 : decode cX11_degree 32 = .ok (.iconst 3, 1) := by decide +kernel
theorem dX11_degree_33 : decode cX11_degree 33 = .ok (.invokevirtual 114, 3) := by decide +kernel
theorem dX11_degree_36 : decode cX11_degree 36 = .ok (.ireturn, 1) := by decide +kernel
theorem dX11_degree_37 : decode cX11_degree 37 = .ok (.aload_n 0, 1) := by decide +kernel
theorem dX11_degree_38 : decode cX11_degree 38 = .ok (.getfield 10, 3) := by decide +kernel
theorem dX11_degree_41 : decode cX11_degree 41 = .ok (.getfield 108, 3) := by decide +kernel
theorem dX11_degree_44 : decode cX11_degree 44 = .ok (.iload_n 1, 1) := by decide +kernel
theorem dX11_degree_45 : decode cX11_degree 45 = .ok (.iaload, 1) := by decide +kernel
theorem dX11_degree_46 : decode cX11_degree 46 = .ok (.invokestatic 118, 3) := by decide +kernel
theorem dX11_degree_49 : decode cX11_degree 49 = .ok (.ireturn, 1) := by decide +kernel
set_option maxRecDepth 20000 in
theorem ggX11_sound_X9_bring : GoodIn wsX11_sound wsX9_bring := goodIn_r _ [6, 7, 8, 9, 10, 11, 12, 13, 14, 15, 16, 17, 18, 19, 20, 21, 22, 23, 24, 25, 26, 27, 28, 29, 30, 31, 32, 33, 34, 35, 36, 37, 38, 39, 40, 41, 42, 43, 44, 45, 46, 47, 48, 49, 50, 51, 52, 53, 4, 54, 55, 56, 57, 58, 59, 60, 61, 62, 63, 64, 65, 79, 80, 81, 82, 83, 84, 85, 86, 87] (by decide +kernel) (by decide +kernel)
set_option maxRecDepth 20000 in
theorem gX11_sound_X9_bring_n123 : GoodIn wsX11_sound (wsX9_bring) := ggX11_sound_X9_bring
theorem dX11_sound_0 : decode cX11_sound 0 = .ok (.aload_n 0, 1) := by decide +kernel
theorem dX11_sound_1 : decode cX11_sound 1 = .ok (.getfield 33, 3) := by decide +kernel
theorem dX11_sound_4 : decode cX11_sound 4 = .ok (.aload_n 0, 1) := by decide +kernel
theorem dX11_sound_5 : decode cX11_sound 5 = .ok (.getfield 10, 3) := by decide +kernel
theorem dX11_sound_8 : decode cX11_sound 8 = .ok (.invokevirtual 123, 3) := by decide +kernel
theorem dX11_sound_11 : decode cX11_sound 11 = .ok (.aload_n 0, 1) := by decide +kernel
theorem dX11_sound_12 : decode cX11_sound 12 = .ok (.getfield 33, 3) := by decide +kernel
theorem dX11_sound_15 : decode cX11_sound 15 = .ok (.getfield 127, 3) := by decide +kernel
theorem dX11_sound_18 : decode cX11_sound 18 = .ok (.ifCond .ne 7, 3) := by decide +kernel
theorem dX11_sound_21 : decode cX11_sound 21 = .ok (.iconst 1, 1) := by decide +kernel
theorem dX11_sound_22 : decode cX11_sound 22 = .ok (.goto 4, 3) := by decide +kernel
theorem dX11_sound_25 : decode cX11_sound 25 = .ok (.iconst 0, 1) := by decide +kernel
theorem dX11_sound_26 : decode cX11_sound 26 = .ok (.ireturn, 1) := by decide +kernel
set_option maxRecDepth 20000 in
theorem ggX11_hole_X9_bring : GoodIn wsX11_hole wsX9_bring := goodIn_r _ [6, 7, 8, 9, 10, 11, 12, 13, 14, 15, 16, 17, 18, 19, 20, 21, 22, 23, 24, 25, 26, 27, 28, 29, 30, 31, 32, 33, 34, 35, 36, 37, 38, 39, 40, 41, 42, 43, 44, 45, 46, 47, 48, 49, 50, 51, 52, 53, 4, 54, 55, 56, 57, 58, 59, 60, 61, 62, 63, 64, 65, 79, 80, 81, 82, 83, 84, 85, 86, 87] (by decide +kernel) (by decide +kernel)
set_option maxRecDepth 20000 in
theorem gX11_hole_X9_bring_n123 : GoodIn wsX11_hole (wsX9_bring) := ggX11_hole_X9_bring
theorem dX11_hole_0 : decode cX11_hole 0 = .ok (.aload_n 0, 1) := by decide +kernel
theorem dX11_hole_1 : decode cX11_hole 1 = .ok (.getfield 33, 3) := by decide +kernel
theorem dX11_hole_4 : decode cX11_hole 4 = .ok (.aload_n 0, 1) := by decide +kernel
theorem dX11_hole_5 : decode cX11_hole 5 = .ok (.getfield 10, 3) := by decide +kernel
theorem dX11_hole_8 : decode cX11_hole 8 = .ok (.invokevirtual 123, 3) := by decide +kernel
theorem dX11_hole_11 : decode cX11_hole 11 = .ok (.iload_n 1, 1) := by decide +kernel
theorem dX11_hole_12 : decode cX11_hole 12 = .ok (.ifCond .lt 26, 3) := by decide +kernel
theorem dX11_hole_15 : decode cX11_hole 15 = .ok (.iload_n 1, 1) := by decide +kernel
theorem dX11_hole_16 : decode cX11_hole 16 = .ok (.aload_n 0, 1) := by decide +kernel
theorem dX11_hole_17 : decode cX11_hole 17 = .ok (.getfield 33, 3) := by decide +kernel
theorem dX11_hole_20 : decode cX11_hole 20 = .ok (.getfield 127, 3) := by decide +kernel
theorem dX11_hole_23 : decode cX11_hole 23 = .ok (.if_icmp .ge 15, 3) := by decide +kernel
theorem dX11_hole_26 : decode cX11_hole 26 = .ok (.aload_n 0, 1) := by decide +kernel
theorem dX11_hole_27 : decode cX11_hole 27 = .ok (.getfield 33, 3) := by decide +kernel
theorem dX11_hole_30 : decode cX11_hole 30 = .ok (.getfield 130, 3) := by decide +kernel
theorem dX11_hole_33 : decode cX11_hole 33 = .ok (.iload_n 1, 1) := by decide +kernel
theorem dX11_hole_34 : decode cX11_hole 34 = .ok (.iaload, 1) := by decide +kernel
theorem dX11_hole_35 : decode cX11_hole 35 = .ok (.goto 5, 3) := by decide +kernel
theorem dX11_hole_38 : decode cX11_hole 38 = .ok (.bipush (-9), 2) := by decide +kernel
theorem dX11_hole_40 : decode cX11_hole 40 = .ok (.ireturn, 1) := by decide +kernel
set_option maxRecDepth 20000 in
theorem ggX11_fromTable_X11_startGraph : GoodIn wsX11_fromTable wsX11_startGraph := goodIn_r _ [7, 2, 8, 9, 10, 11, 12, 13, 14, 15, 16, 17, 18, 19, 20, 21, 22, 23, 24, 25, 26, 27, 28, 29, 30, 31, 32, 33, 6, 34, 38, 39, 40, 41, 42, 43, 44, 45, 46, 47, 48, 49, 50, 54, 55, 56, 57, 58, 59, 60, 61, 62, 63, 64, 65] (by decide +kernel) (by decide +kernel)
set_option maxRecDepth 20000 in
theorem gX11_fromTable_X11_startGraph : GoodIn wsX11_fromTable (wsV RX11 90 RX11 yX11_startGraph wsX11_startGraph) := goodIn_app (goodIn_of _ (by decide +kernel)) ggX11_fromTable_X11_startGraph
set_option maxRecDepth 20000 in
theorem ggX11_fromTable_X4_joinAll : GoodIn wsX11_fromTable wsX4_joinAll := goodIn_r _ [37, 13, 14, 15, 33, 6, 34, 54, 55, 56] (by decide +kernel) (by decide +kernel)
set_option maxRecDepth 20000 in
theorem gX11_fromTable_X4_joinAll_n139 : GoodIn wsX11_fromTable (wsX4_joinAll) := ggX11_fromTable_X4_joinAll
theorem dX11_fromTable_0 : decode cX11_fromTable 0 = .ok (.aload_n 0, 1) := by decide +kernel
theorem dX11_fromTable_1 : decode cX11_fromTable 1 = .ok (.aload_n 0, 1) := by decide +kernel
theorem dX11_fromTable_2 : decode cX11_fromTable 2 = .ok (.getfield 19, 3) := by decide +kernel
theorem dX11_fromTable_5 : decode cX11_fromTable 5 = .ok (.getfield 133, 3) := by decide +kernel
theorem dX11_fromTable_8 : decode cX11_fromTable 8 = .ok (.invokevirtual 90, 3) := by decide +kernel
theorem dX11_fromTable_11 : decode cX11_fromTable 11 = .ok (.iconst 0, 1) := by decide +kernel
theorem dX11_fromTable_12 : decode cX11_fromTable 12 = .ok (.istore_n 1, 1) := by decide +kernel
theorem dX11_fromTable_13 : decode cX11_fromTable 13 = .ok (.iload_n 1, 1) := by decide +kernel
theorem dX11_fromTable_14 : decode cX11_fromTable 14 = .ok (.bipush 12, 2) := by decide +kernel
theorem dX11_fromTable_16 : decode cX11_fromTable 16 = .ok (.if_icmp .ge 38, 3) := by decide +kernel
theorem dX11_fromTable_19 : decode cX11_fromTable 19 = .ok (.aload_n 0, 1) := by decide +kernel
theorem dX11_fromTable_20 : decode cX11_fromTable 20 = .ok (.getfield 19, 3) := by decide +kernel
theorem dX11_fromTable_23 : decode cX11_fromTable 23 = .ok (.getfield 136, 3) := by decide +kernel
theorem dX11_fromTable_26 : decode cX11_fromTable 26 = .ok (.iload_n 1, 1) := by decide +kernel
theorem dX11_fromTable_27 : decode cX11_fromTable 27 = .ok (.iaload, 1) := by decide +kernel
theorem dX11_fromTable_28 : decode cX11_fromTable 28 = .ok (.iconst (-1), 1) := by decide +kernel
theorem dX11_fromTable_29 : decode cX11_fromTable 29 = .ok (.if_icmp .eq 19, 3) := by decide +kernel
theorem dX11_fromTable_32 : decode cX11_fromTable 32 = .ok (.aload_n 0, 1) := by decide +kernel
theorem dX11_fromTable_33 : decode cX11_fromTable 33 = .ok (.getfield 10, 3) := by decide +kernel
theorem dX11_fromTable_36 : decode cX11_fromTable 36 = .ok (.aload_n 0, 1) := by decide +kernel
theorem dX11_fromTable_37 : decode cX11_fromTable 37 = .ok (.getfield 19, 3) := by decide +kernel
theorem dX11_fromTable_40 : decode cX11_fromTable 40 = .ok (.getfield 136, 3) := by decide +kernel
theorem dX11_fromTable_43 : decode cX11_fromTable 43 = .ok (.iload_n 1, 1) := by decide +kernel
theorem dX11_fromTable_44 : decode cX11_fromTable 44 = .ok (.iaload, 1) := by decide +kernel
theorem dX11_fromTable_45 : decode cX11_fromTable 45 = .ok (.invokevirtual 139, 3) := by decide +kernel
theorem dX11_fromTable_48 : decode cX11_fromTable 48 = .ok (.iinc 1 1, 3) := by decide +kernel
theorem dX11_fromTable_51 : decode cX11_fromTable 51 = .ok (.goto (-38), 3) := by decide +kernel
theorem dX11_fromTable_54 : decode cX11_fromTable 54 = .ok (.aload_n 0, 1) := by decide +kernel
theorem dX11_fromTable_55 : decode cX11_fromTable 55 = .ok (.getfield 10, 3) := by decide +kernel
theorem dX11_fromTable_58 : decode cX11_fromTable 58 = .ok (.getfield 142, 3) := by decide +kernel
theorem dX11_fromTable_61 : decode cX11_fromTable 61 = .ok (.ireturn, 1) := by decide +kernel
set_option maxRecDepth 20000 in
theorem ggX11_turn_X4_invert : GoodIn wsX11_turn wsX4_invert := goodIn_r _ [6, 7, 8, 9, 10, 11, 12, 4, 13, 42, 43, 44] (by decide +kernel) (by decide +kernel)
set_option maxRecDepth 20000 in
theorem gX11_turn_X4_invert_n145 : GoodIn wsX11_turn (wsX4_invert) := ggX11_turn_X4_invert
set_option maxRecDepth 20000 in
theorem ggX11_turn_X6_drop : GoodIn wsX11_turn wsX6_drop := goodIn_r _ [17, 18, 45, 46, 47, 48, 49, 50, 51, 52, 53] (by decide +kernel) (by decide +kernel)
set_option maxRecDepth 20000 in
theorem gX11_turn_X6_drop_n105 : GoodIn wsX11_turn (wsX6_drop) := ggX11_turn_X6_drop
set_option maxRecDepth 20000 in
theorem ggX11_turn_X4_pairs : GoodIn wsX11_turn wsX4_pairs := goodIn_r _ [21, 7, 8, 22, 23, 24, 25, 26, 27, 28, 42, 43, 44] (by decide +kernel) (by decide +kernel)
set_option maxRecDepth 20000 in
theorem gX11_turn_X4_pairs_n148 : GoodIn wsX11_turn (wsX4_pairs) := ggX11_turn_X4_pairs
theorem dX11_turn_0 : decode cX11_turn 0 = .ok (.aload_n 0, 1) := by decide +kernel
theorem dX11_turn_1 : decode cX11_turn 1 = .ok (.getfield 10, 3) := by decide +kernel
theorem dX11_turn_4 : decode cX11_turn 4 = .ok (.invokevirtual 145, 3) := by decide +kernel
theorem dX11_turn_7 : decode cX11_turn 7 = .ok (.aload_n 0, 1) := by decide +kernel
theorem dX11_turn_8 : decode cX11_turn 8 = .ok (.getfield 26, 3) := by decide +kernel
theorem dX11_turn_11 : decode cX11_turn 11 = .ok (.invokevirtual 105, 3) := by decide +kernel
theorem dX11_turn_14 : decode cX11_turn 14 = .ok (.aload_n 0, 1) := by decide +kernel
theorem dX11_turn_15 : decode cX11_turn 15 = .ok (.getfield 10, 3) := by decide +kernel
theorem dX11_turn_18 : decode cX11_turn 18 = .ok (.invokevirtual 148, 3) := by decide +kernel
theorem dX11_turn_21 : decode cX11_turn 21 = .ok (.ireturn, 1) := by decide +kernel
set_option maxRecDepth 20000 in
theorem ggX11_draft_X4_has : GoodIn wsX11_draft wsX4_has := goodIn_r _ [6, 7, 46, 47, 48] (by decide +kernel) (by decide +kernel)
set_option maxRecDepth 20000 in
theorem gX11_draft_X4_has_n93 : GoodIn wsX11_draft (wsX4_has) := ggX11_draft_X4_has
set_option maxRecDepth 20000 in
theorem ggX11_draft_X6_drafted : GoodIn wsX11_draft wsX6_drafted := goodIn_r _ [11, 12, 13, 14, 9, 15, 16, 17, 18, 19, 20, 37, 38, 39, 40, 41, 42, 43, 44, 45] (by decide +kernel) (by decide +kernel)
set_option maxRecDepth 20000 in
theorem gX11_draft_X6_drafted_n152 : GoodIn wsX11_draft (wsX6_drafted) := ggX11_draft_X6_drafted
set_option maxRecDepth 20000 in
theorem ggX11_draft_X6_addToDraft : GoodIn wsX11_draft wsX6_addToDraft := goodIn_r _ [23, 16, 17, 37, 38, 39, 40, 41, 42, 43, 44, 45] (by decide +kernel) (by decide +kernel)
set_option maxRecDepth 20000 in
theorem gX11_draft_X6_addToDraft_n155 : GoodIn wsX11_draft (wsX6_addToDraft) := ggX11_draft_X6_addToDraft
theorem dX11_draft_0 : decode cX11_draft 0 = .ok (.aload_n 0, 1) := by decide +kernel
theorem dX11_draft_1 : decode cX11_draft 1 = .ok (.getfield 10, 3) := by decide +kernel
theorem dX11_draft_4 : decode cX11_draft 4 = .ok (.iload_n 1, 1) := by decide +kernel
theorem dX11_draft_5 : decode cX11_draft 5 = .ok (.invokevirtual 93, 3) := by decide +kernel
theorem dX11_draft_8 : decode cX11_draft 8 = .ok (.ifCond .eq 14, 3) := by decide +kernel
theorem dX11_draft_11 : decode cX11_draft 11 = .ok (.aload_n 0, 1) := by decide +kernel
theorem dX11_draft_12 : decode cX11_draft 12 = .ok (.getfield 26, 3) := by decide +kernel
theorem dX11_draft_15 : decode cX11_draft 15 = .ok (.iload_n 1, 1) := by decide +kernel
theorem dX11_draft_16 : decode cX11_draft 16 = .ok (.invokevirtual 152, 3) := by decide +kernel
theorem dX11_draft_19 : decode cX11_draft 19 = .ok (.ifCond .eq 5, 3) := by decide +kernel
theorem dX11_draft_22 : decode cX11_draft 22 = .ok (.iconst (-1), 1) := by decide +kernel
theorem dX11_draft_23 : decode cX11_draft 23 = .ok (.ireturn, 1) := by decide +kernel
theorem dX11_draft_24 : decode cX11_draft 24 = .ok (.aload_n 0, 1) := by decide +kernel
theorem dX11_draft_25 : decode cX11_draft 25 = .ok (.getfield 26, 3) := by decide +kernel
theorem dX11_draft_28 : decode cX11_draft 28 = .ok (.iload_n 1, 1) := by decide +kernel
theorem dX11_draft_29 : decode cX11_draft 29 = .ok (.invokevirtual 155, 3) := by decide +kernel
theorem dX11_draft_32 : decode cX11_draft 32 = .ok (.aload_n 0, 1) := by decide +kernel
theorem dX11_draft_33 : decode cX11_draft 33 = .ok (.getfield 26, 3) := by decide +kernel
theorem dX11_draft_36 : decode cX11_draft 36 = .ok (.getfield 158, 3) := by decide +kernel
theorem dX11_draft_39 : decode cX11_draft 39 = .ok (.ireturn, 1) := by decide +kernel
set_option maxRecDepth 20000 in
theorem ggX11_take_X6_draftSet : GoodIn wsX11_take wsX6_draftSet := goodIn_r _ [6, 7, 8, 81, 82, 83, 84, 85, 86, 87, 88, 89] (by decide +kernel) (by decide +kernel)
set_option maxRecDepth 20000 in
theorem gX11_take_X6_draftSet_n161 : GoodIn wsX11_take (wsX6_draftSet) := ggX11_take_X6_draftSet
set_option maxRecDepth 20000 in
theorem ggX11_take_X4_all : GoodIn wsX11_take wsX4_all := goodIn_r _ [12, 13, 90, 91, 92] (by decide +kernel) (by decide +kernel)
set_option maxRecDepth 20000 in
theorem gX11_take_X4_all_n164 : GoodIn wsX11_take (wsX4_all) := ggX11_take_X4_all
set_option maxRecDepth 20000 in
theorem ggX11_take_X6_followDraft : GoodIn wsX11_take wsX6_followDraft := goodIn_r _ [16, 17, 8, 18, 19, 20, 4, 21, 22, 23, 24, 25, 26, 27, 28, 29, 30, 31, 32, 33, 34, 35, 36, 37, 38, 39, 40, 41, 42, 43, 44, 45, 46, 47, 48, 49, 50, 51, 52, 53, 54, 55, 56, 57, 58, 59, 60, 61, 62, 63, 64, 65, 66, 67, 81, 82, 83, 84, 85, 86, 87, 88, 89, 90, 91, 92, 93, 94] (by decide +kernel) (by decide +kernel)
set_option maxRecDepth 20000 in
theorem gX11_take_X6_followDraft_n167 : GoodIn wsX11_take (wsX6_followDraft) := ggX11_take_X6_followDraft
theorem dX11_take_0 : decode cX11_take 0 = .ok (.aload_n 0, 1) := by decide +kernel
theorem dX11_take_1 : decode cX11_take 1 = .ok (.getfield 26, 3) := by decide +kernel
theorem dX11_take_4 : decode cX11_take 4 = .ok (.invokevirtual 161, 3) := by decide +kernel
theorem dX11_take_7 : decode cX11_take 7 = .ok (.aload_n 0, 1) := by decide +kernel
theorem dX11_take_8 : decode cX11_take 8 = .ok (.getfield 10, 3) := by decide +kernel
theorem dX11_take_11 : decode cX11_take 11 = .ok (.invokevirtual 164, 3) := by decide +kernel
theorem dX11_take_14 : decode cX11_take 14 = .ok (.if_icmp .ne 7, 3) := by decide +kernel
theorem dX11_take_17 : decode cX11_take 17 = .ok (.iconst 1, 1) := by decide +kernel
theorem dX11_take_18 : decode cX11_take 18 = .ok (.goto 4, 3) := by decide +kernel
theorem dX11_take_21 : decode cX11_take 21 = .ok (.iconst 0, 1) := by decide +kernel
theorem dX11_take_22 : decode cX11_take 22 = .ok (.istore_n 1, 1) := by decide +kernel
theorem dX11_take_23 : decode cX11_take 23 = .ok (.iload_n 1, 1) := by decide +kernel
theorem dX11_take_24 : decode cX11_take 24 = .ok (.ifCond .eq 14, 3) := by decide +kernel
theorem dX11_take_27 : decode cX11_take 27 = .ok (.aload_n 0, 1) := by decide +kernel
theorem dX11_take_28 : decode cX11_take 28 = .ok (.getfield 26, 3) := by decide +kernel
theorem dX11_take_31 : decode cX11_take 31 = .ok (.aload_n 0, 1) := by decide +kernel
theorem dX11_take_32 : decode cX11_take 32 = .ok (.getfield 10, 3) := by decide +kernel
theorem dX11_take_35 : decode cX11_take 35 = .ok (.invokevirtual 167, 3) := by decide +kernel
theorem dX11_take_38 : decode cX11_take 38 = .ok (.aload_n 0, 1) := by decide +kernel
theorem dX11_take_39 : decode cX11_take 39 = .ok (.getfield 26, 3) := by decide +kernel
theorem dX11_take_42 : decode cX11_take 42 = .ok (.iconst 0, 1) := by decide +kernel
theorem dX11_take_43 : decode cX11_take 43 = .ok (.putfield 158, 3) := by decide +kernel
theorem dX11_take_46 : decode cX11_take 46 = .ok (.iload_n 1, 1) := by decide +kernel
theorem dX11_take_47 : decode cX11_take 47 = .ok (.ifCond .eq 13, 3) := by decide +kernel
theorem dX11_take_50 : decode cX11_take 50 = .ok (.aload_n 0, 1) := by decide +kernel
theorem dX11_take_51 : decode cX11_take 51 = .ok (.getfield 26, 3) := by decide +kernel
theorem dX11_take_54 : decode cX11_take 54 = .ok (.getfield 170, 3) := by decide +kernel
theorem dX11_take_57 : decode cX11_take 57 = .ok (.goto 5, 3) := by decide +kernel
theorem dX11_take_60 : decode cX11_take 60 = .ok (.bipush (-4), 2) := by decide +kernel
theorem dX11_take_62 : decode cX11_take 62 = .ok (.ireturn, 1) := by decide +kernel
set_option maxRecDepth 20000 in
theorem ggX11_rule_X6_followRule : GoodIn wsX11_rule wsX6_followRule := goodIn_r _ [6, 7, 8, 9, 10, 11, 4, 12, 13, 14, 15, 16, 17, 18, 19, 20, 21, 22, 23, 24, 25, 26, 27, 28, 29, 30, 31, 32, 33, 34, 35, 36, 37, 38, 39, 40, 41, 42, 43, 44, 45, 46, 47, 48, 49, 50, 51, 52, 53, 54, 55, 56, 57, 58, 59, 60, 61, 62, 63, 64, 65, 66, 67, 68, 69, 70, 71, 72, 73, 74, 75, 76, 77, 91, 92, 93, 94, 95, 96, 97, 98, 99, 100, 101, 102, 103, 104] (by decide +kernel) (by decide +kernel)
set_option maxRecDepth 20000 in
theorem gX11_rule_X6_followRule_n173 : GoodIn wsX11_rule (wsX6_followRule) := ggX11_rule_X6_followRule
theorem dX11_rule_0 : decode cX11_rule 0 = .ok (.iload_n 1, 1) := by decide +kernel
theorem dX11_rule_1 : decode cX11_rule 1 = .ok (.ifCond .lt 8, 3) := by decide +kernel
theorem dX11_rule_4 : decode cX11_rule 4 = .ok (.iload_n 1, 1) := by decide +kernel
theorem dX11_rule_5 : decode cX11_rule 5 = .ok (.iconst 2, 1) := by decide +kernel
theorem dX11_rule_6 : decode cX11_rule 6 = .ok (.if_icmp .le 5, 3) := by decide +kernel
theorem dX11_rule_9 : decode cX11_rule 9 = .ok (.iconst (-1), 1) := by decide +kernel
theorem dX11_rule_10 : decode cX11_rule 10 = .ok (.ireturn, 1) := by decide +kernel
theorem dX11_rule_11 : decode cX11_rule 11 = .ok (.aload_n 0, 1) := by decide +kernel
theorem dX11_rule_12 : decode cX11_rule 12 = .ok (.getfield 26, 3) := by decide +kernel
theorem dX11_rule_15 : decode cX11_rule 15 = .ok (.aload_n 0, 1) := by decide +kernel
theorem dX11_rule_16 : decode cX11_rule 16 = .ok (.getfield 10, 3) := by decide +kernel
theorem dX11_rule_19 : decode cX11_rule 19 = .ok (.iload_n 1, 1) := by decide +kernel
theorem dX11_rule_20 : decode cX11_rule 20 = .ok (.invokevirtual 173, 3) := by decide +kernel
theorem dX11_rule_23 : decode cX11_rule 23 = .ok (.aload_n 0, 1) := by decide +kernel
theorem dX11_rule_24 : decode cX11_rule 24 = .ok (.getfield 26, 3) := by decide +kernel
theorem dX11_rule_27 : decode cX11_rule 27 = .ok (.getfield 170, 3) := by decide +kernel
theorem dX11_rule_30 : decode cX11_rule 30 = .ok (.ireturn, 1) := by decide +kernel
set_option maxRecDepth 20000 in
theorem ggX11_least_X6_followLeast : GoodIn wsX11_least wsX6_followLeast := goodIn_r _ [6, 7, 8, 9, 10, 11, 12, 4, 13, 14, 15, 16, 17, 18, 19, 20, 21, 22, 23, 24, 25, 26, 27, 28, 29, 30, 31, 32, 33, 34, 35, 36, 37, 38, 39, 40, 41, 42, 43, 44, 45, 46, 47, 48, 49, 50, 51, 52, 53, 54, 55, 56, 57, 58, 59, 60, 61, 62, 63, 64, 65, 66, 67, 68, 69, 70, 71, 72, 73, 74, 75, 76, 77, 78, 79, 80, 81, 82, 83, 84, 85, 86, 87, 88, 89, 90, 91, 92, 93, 94, 95, 96, 97, 98, 99, 100, 101, 102, 103, 104, 105, 106, 107, 108, 109, 110, 111, 112, 113, 114, 115, 116, 117, 118, 119, 120, 121, 122, 123, 137, 138, 139, 140, 141, 142, 143, 144, 145, 146, 147, 148, 149, 150, 151, 152, 153, 154, 155, 156] (by decide +kernel) (by decide +kernel)
set_option maxRecDepth 20000 in
theorem gX11_least_X6_followLeast_n177 : GoodIn wsX11_least (wsX6_followLeast) := ggX11_least_X6_followLeast
theorem dX11_least_0 : decode cX11_least 0 = .ok (.iload_n 1, 1) := by decide +kernel
theorem dX11_least_1 : decode cX11_least 1 = .ok (.ifCond .eq 10, 3) := by decide +kernel
theorem dX11_least_4 : decode cX11_least 4 = .ok (.iload_n 1, 1) := by decide +kernel
theorem dX11_least_5 : decode cX11_least 5 = .ok (.iconst 1, 1) := by decide +kernel
theorem dX11_least_6 : decode cX11_least 6 = .ok (.if_icmp .eq 5, 3) := by decide +kernel
theorem dX11_least_9 : decode cX11_least 9 = .ok (.iconst (-1), 1) := by decide +kernel
theorem dX11_least_10 : decode cX11_least 10 = .ok (.ireturn, 1) := by decide +kernel
theorem dX11_least_11 : decode cX11_least 11 = .ok (.aload_n 0, 1) := by decide +kernel
theorem dX11_least_12 : decode cX11_least 12 = .ok (.getfield 26, 3) := by decide +kernel
theorem dX11_least_15 : decode cX11_least 15 = .ok (.aload_n 0, 1) := by decide +kernel
theorem dX11_least_16 : decode cX11_least 16 = .ok (.getfield 10, 3) := by decide +kernel
theorem dX11_least_19 : decode cX11_least 19 = .ok (.iload_n 1, 1) := by decide +kernel
theorem dX11_least_20 : decode cX11_least 20 = .ok (.invokevirtual 177, 3) := by decide +kernel
theorem dX11_least_23 : decode cX11_least 23 = .ok (.iload_n 1, 1) := by decide +kernel
theorem dX11_least_24 : decode cX11_least 24 = .ok (.ifCond .ne 13, 3) := by decide +kernel
theorem dX11_least_27 : decode cX11_least 27 = .ok (.aload_n 0, 1) := by decide +kernel
theorem dX11_least_28 : decode cX11_least 28 = .ok (.getfield 26, 3) := by decide +kernel
theorem dX11_least_31 : decode cX11_least 31 = .ok (.getfield 170, 3) := by decide +kernel
theorem dX11_least_34 : decode cX11_least 34 = .ok (.goto 10, 3) := by decide +kernel
theorem dX11_least_37 : decode cX11_least 37 = .ok (.aload_n 0, 1) := by decide +kernel
theorem dX11_least_38 : decode cX11_least 38 = .ok (.getfield 26, 3) := by decide +kernel
theorem dX11_least_41 : decode cX11_least 41 = .ok (.getfield 180, 3) := by decide +kernel
theorem dX11_least_44 : decode cX11_least 44 = .ok (.ireturn, 1) := by decide +kernel
set_option maxRecDepth 20000 in
theorem ggX11_order_X6_length : GoodIn wsX11_order wsX6_length := goodIn_r _ [5, 6, 7, 21, 22, 23, 24, 25, 26, 27, 28, 29] (by decide +kernel) (by decide +kernel)
set_option maxRecDepth 20000 in
theorem gX11_order_X6_length_n181 : GoodIn wsX11_order (wsX6_length) := ggX11_order_X6_length
theorem dX11_order_0 : decode cX11_order 0 = .ok (.iload_n 1, 1) := by decide +kernel
theorem dX11_order_1 : decode cX11_order 1 = .ok (.ifCond .lt 26, 3) := by decide +kernel
theorem dX11_order_4 : decode cX11_order 4 = .ok (.iload_n 1, 1) := by decide +kernel
theorem dX11_order_5 : decode cX11_order 5 = .ok (.aload_n 0, 1) := by decide +kernel
theorem dX11_order_6 : decode cX11_order 6 = .ok (.getfield 26, 3) := by decide +kernel
theorem dX11_order_9 : decode cX11_order 9 = .ok (.invokevirtual 181, 3) := by decide +kernel
theorem dX11_order_12 : decode cX11_order 12 = .ok (.if_icmp .ge 15, 3) := by decide +kernel
theorem dX11_order_15 : decode cX11_order 15 = .ok (.aload_n 0, 1) := by decide +kernel
theorem dX11_order_16 : decode cX11_order 16 = .ok (.getfield 26, 3) := by decide +kernel
theorem dX11_order_19 : decode cX11_order 19 = .ok (.getfield 183, 3) := by decide +kernel
theorem dX11_order_22 : decode cX11_order 22 = .ok (.iload_n 1, 1) := by decide +kernel
theorem dX11_order_23 : decode cX11_order 23 = .ok (.iaload, 1) := by decide +kernel
theorem dX11_order_24 : decode cX11_order 24 = .ok (.goto 5, 3) := by decide +kernel
theorem dX11_order_27 : decode cX11_order 27 = .ok (.bipush (-9), 2) := by decide +kernel
theorem dX11_order_29 : decode cX11_order 29 = .ok (.ireturn, 1) := by decide +kernel
theorem dX11_about_0 : decode cX11_about 0 = .ok (.iload_n 1, 1) := by decide +kernel
theorem dX11_about_1 : decode cX11_about 1 = .ok (.ifCond .lt 8, 3) := by decide +kernel
theorem dX11_about_4 : decode cX11_about 4 = .ok (.iload_n 1, 1) := by decide +kernel
theorem dX11_about_5 : decode cX11_about 5 = .ok (.iconst 2, 1) := by decide +kernel
theorem dX11_about_6 : decode cX11_about 6 = .ok (.if_icmp .le 5, 3) := by decide +kernel
theorem dX11_about_9 : decode cX11_about 9 = .ok (.iconst (-1), 1) := by decide +kernel
theorem dX11_about_10 : decode cX11_about 10 = .ok (.ireturn, 1) := by decide +kernel
theorem dX11_about_11 : decode cX11_about 11 = .ok (.aload_n 0, 1) := by decide +kernel
theorem dX11_about_12 : decode cX11_about 12 = .ok (.getfield 26, 3) := by decide +kernel
theorem dX11_about_15 : decode cX11_about 15 = .ok (.getfield 186, 3) := by decide +kernel
theorem dX11_about_18 : decode cX11_about 18 = .ok (.ifCond .ne 6, 3) := by decide +kernel
theorem dX11_about_21 : decode cX11_about 21 = .ok (.bipush (-9), 2) := by decide +kernel
theorem dX11_about_23 : decode cX11_about 23 = .ok (.ireturn, 1) := by decide +kernel
theorem dX11_about_24 : decode cX11_about 24 = .ok (.iload_n 1, 1) := by decide +kernel
theorem dX11_about_25 : decode cX11_about 25 = .ok (.ifCond .ne 11, 3) := by decide +kernel
theorem dX11_about_28 : decode cX11_about 28 = .ok (.aload_n 0, 1) := by decide +kernel
theorem dX11_about_29 : decode cX11_about 29 = .ok (.getfield 26, 3) := by decide +kernel
theorem dX11_about_32 : decode cX11_about 32 = .ok (.getfield 170, 3) := by decide +kernel
theorem dX11_about_35 : decode cX11_about 35 = .ok (.ireturn, 1) := by decide +kernel
theorem dX11_about_36 : decode cX11_about 36 = .ok (.iload_n 1, 1) := by decide +kernel
theorem dX11_about_37 : decode cX11_about 37 = .ok (.iconst 1, 1) := by decide +kernel
theorem dX11_about_38 : decode cX11_about 38 = .ok (.if_icmp .ne 11, 3) := by decide +kernel
theorem dX11_about_41 : decode cX11_about 41 = .ok (.aload_n 0, 1) := by decide +kernel
theorem dX11_about_42 : decode cX11_about 42 = .ok (.getfield 26, 3) := by decide +kernel
theorem dX11_about_45 : decode cX11_about 45 = .ok (.getfield 180, 3) := by decide +kernel
theorem dX11_about_48 : decode cX11_about 48 = .ok (.ireturn, 1) := by decide +kernel
theorem dX11_about_49 : decode cX11_about 49 = .ok (.aload_n 0, 1) := by decide +kernel
theorem dX11_about_50 : decode cX11_about 50 = .ok (.getfield 26, 3) := by decide +kernel
theorem dX11_about_53 : decode cX11_about 53 = .ok (.getfield 170, 3) := by decide +kernel
theorem dX11_about_56 : decode cX11_about 56 = .ok (.ifCond .ne 7, 3) := by decide +kernel
theorem dX11_about_59 : decode cX11_about 59 = .ok (.iconst 1, 1) := by decide +kernel
theorem dX11_about_60 : decode cX11_about 60 = .ok (.goto 4, 3) := by decide +kernel
theorem dX11_about_63 : decode cX11_about 63 = .ok (.iconst 0, 1) := by decide +kernel
theorem dX11_about_64 : decode cX11_about 64 = .ok (.ireturn, 1) := by decide +kernel
set_option maxRecDepth 20000 in
theorem ggX11_fill_X6_fillIn : GoodIn wsX11_fill wsX6_fillIn := goodIn_r _ [6, 7, 8, 9, 10, 11, 12, 13, 14, 15, 16, 17, 18, 19, 20, 21, 22, 23, 24, 25, 26, 27, 28, 29, 30, 31, 32, 33, 34, 35, 36, 37, 38, 39, 57, 58, 59, 60, 61, 62, 63, 64, 65, 66, 67, 68, 69, 70] (by decide +kernel) (by decide +kernel)
set_option maxRecDepth 20000 in
theorem gX11_fill_X6_fillIn_n190 : GoodIn wsX11_fill (wsX6_fillIn) := ggX11_fill_X6_fillIn
set_option maxRecDepth 20000 in
theorem ggX11_fill_X6_drop : GoodIn wsX11_fill wsX6_drop := goodIn_r _ [42, 43, 57, 58, 59, 60, 61, 62, 63, 64, 65] (by decide +kernel) (by decide +kernel)
set_option maxRecDepth 20000 in
theorem gX11_fill_X6_drop_n105 : GoodIn wsX11_fill (wsX6_drop) := ggX11_fill_X6_drop
theorem dX11_fill_0 : decode cX11_fill 0 = .ok (.aload_n 0, 1) := by decide +kernel
theorem dX11_fill_1 : decode cX11_fill 1 = .ok (.getfield 26, 3) := by decide +kernel
theorem dX11_fill_4 : decode cX11_fill 4 = .ok (.getfield 186, 3) := by decide +kernel
theorem dX11_fill_7 : decode cX11_fill 7 = .ok (.ifCond .ne 6, 3) := by decide +kernel
theorem dX11_fill_10 : decode cX11_fill 10 = .ok (.bipush (-9), 2) := by decide +kernel
theorem dX11_fill_12 : decode cX11_fill 12 = .ok (.ireturn, 1) := by decide +kernel
theorem dX11_fill_13 : decode cX11_fill 13 = .ok (.aload_n 0, 1) := by decide +kernel
theorem dX11_fill_14 : decode cX11_fill 14 = .ok (.getfield 26, 3) := by decide +kernel
theorem dX11_fill_17 : decode cX11_fill 17 = .ok (.aload_n 0, 1) := by decide +kernel
theorem dX11_fill_18 : decode cX11_fill 18 = .ok (.getfield 10, 3) := by decide +kernel
theorem dX11_fill_21 : decode cX11_fill 21 = .ok (.invokevirtual 190, 3) := by decide +kernel
theorem dX11_fill_24 : decode cX11_fill 24 = .ok (.aload_n 0, 1) := by decide +kernel
theorem dX11_fill_25 : decode cX11_fill 25 = .ok (.getfield 26, 3) := by decide +kernel
theorem dX11_fill_28 : decode cX11_fill 28 = .ok (.invokevirtual 105, 3) := by decide +kernel
theorem dX11_fill_31 : decode cX11_fill 31 = .ok (.aload_n 0, 1) := by decide +kernel
theorem dX11_fill_32 : decode cX11_fill 32 = .ok (.getfield 26, 3) := by decide +kernel
theorem dX11_fill_35 : decode cX11_fill 35 = .ok (.getfield 170, 3) := by decide +kernel
theorem dX11_fill_38 : decode cX11_fill 38 = .ok (.ireturn, 1) := by decide +kernel
set_option maxRecDepth 20000 in
theorem ggX11_clique_X1_bring : GoodIn wsX11_clique wsX1_bring := goodIn_r _ [6, 7, 8, 9, 10, 11, 12, 13, 14, 15, 16, 17, 4, 18, 19, 20, 21, 22, 23, 24, 25, 26, 27, 28, 29, 30, 31, 32, 33, 34, 35, 52, 53, 54, 55, 56, 57, 58, 59, 60, 61, 62] (by decide +kernel) (by decide +kernel)
set_option maxRecDepth 20000 in
theorem gX11_clique_X1_bring_n193 : GoodIn wsX11_clique (wsX1_bring) := ggX11_clique_X1_bring
set_option maxRecDepth 20000 in
theorem ggX11_clique_X1_has : GoodIn wsX11_clique wsX1_has := goodIn_r _ [38, 8, 52, 53, 54, 55, 56, 57, 58, 59] (by decide +kernel) (by decide +kernel)
set_option maxRecDepth 20000 in
theorem gX11_clique_X1_has_n195 : GoodIn wsX11_clique (wsX1_has) := ggX11_clique_X1_has
theorem dX11_clique_0 : decode cX11_clique 0 = .ok (.aload_n 0, 1) := by decide +kernel
theorem dX11_clique_1 : decode cX11_clique 1 = .ok (.getfield 42, 3) := by decide +kernel
theorem dX11_clique_4 : decode cX11_clique 4 = .ok (.aload_n 0, 1) := by decide +kernel
theorem dX11_clique_5 : decode cX11_clique 5 = .ok (.getfield 10, 3) := by decide +kernel
theorem dX11_clique_8 : decode cX11_clique 8 = .ok (.invokevirtual 193, 3) := by decide +kernel
theorem dX11_clique_11 : decode cX11_clique 11 = .ok (.iload_n 1, 1) := by decide +kernel
theorem dX11_clique_12 : decode cX11_clique 12 = .ok (.iconst (-1), 1) := by decide +kernel
theorem dX11_clique_13 : decode cX11_clique 13 = .ok (.if_icmp .ne 11, 3) := by decide +kernel
theorem dX11_clique_16 : decode cX11_clique 16 = .ok (.aload_n 0, 1) := by decide +kernel
theorem dX11_clique_17 : decode cX11_clique 17 = .ok (.getfield 42, 3) := by decide +kernel
theorem dX11_clique_20 : decode cX11_clique 20 = .ok (.getfield 194, 3) := by decide +kernel
theorem dX11_clique_23 : decode cX11_clique 23 = .ok (.ireturn, 1) := by decide +kernel
theorem dX11_clique_24 : decode cX11_clique 24 = .ok (.aload_n 0, 1) := by decide +kernel
theorem dX11_clique_25 : decode cX11_clique 25 = .ok (.getfield 42, 3) := by decide +kernel
theorem dX11_clique_28 : decode cX11_clique 28 = .ok (.iload_n 1, 1) := by decide +kernel
theorem dX11_clique_29 : decode cX11_clique 29 = .ok (.invokevirtual 195, 3) := by decide +kernel
theorem dX11_clique_32 : decode cX11_clique 32 = .ok (.ifCond .eq 15, 3) := by decide +kernel
theorem dX11_clique_35 : decode cX11_clique 35 = .ok (.aload_n 0, 1) := by decide +kernel
theorem dX11_clique_36 : decode cX11_clique 36 = .ok (.getfield 42, 3) := by decide +kernel
theorem dX11_clique_39 : decode cX11_clique 39 = .ok (.getfield 196, 3) := by decide +kernel
theorem dX11_clique_42 : decode cX11_clique 42 = .ok (.iload_n 1, 1) := by decide +kernel
theorem dX11_clique_43 : decode cX11_clique 43 = .ok (.iaload, 1) := by decide +kernel
theorem dX11_clique_44 : decode cX11_clique 44 = .ok (.goto 5, 3) := by decide +kernel
theorem dX11_clique_47 : decode cX11_clique 47 = .ok (.bipush (-9), 2) := by decide +kernel
theorem dX11_clique_49 : decode cX11_clique 49 = .ok (.ireturn, 1) := by decide +kernel
set_option maxRecDepth 20000 in
theorem ggX11_greatest_X1_bring : GoodIn wsX11_greatest wsX1_bring := goodIn_r _ [6, 7, 8, 9, 10, 11, 12, 13, 14, 15, 16, 17, 4, 18, 19, 20, 21, 22, 23, 24, 25, 26, 27, 28, 29, 30, 31, 32, 33, 34, 35, 59, 60, 61, 62, 63, 64, 65, 66, 67, 68, 69] (by decide +kernel) (by decide +kernel)
set_option maxRecDepth 20000 in
theorem gX11_greatest_X1_bring_n193 : GoodIn wsX11_greatest (wsX1_bring) := ggX11_greatest_X1_bring
set_option maxRecDepth 20000 in
theorem ggX11_greatest_X1_widest : GoodIn wsX11_greatest wsX1_widest := goodIn_r _ [38, 8, 30, 39, 40, 33, 41, 42, 43, 44, 59, 60, 61, 62, 63, 64, 65, 66] (by decide +kernel) (by decide +kernel)
set_option maxRecDepth 20000 in
theorem gX11_greatest_X1_widest_n199 : GoodIn wsX11_greatest (wsX1_widest) := ggX11_greatest_X1_widest
set_option maxRecDepth 20000 in
theorem ggX11_greatest_J6_bitCount_0f7a4 : GoodIn wsX11_greatest wsJ6_bitCount_0f7a4 := goodIn_r _ [41, 42, 43, 44] (by decide +kernel) (by decide +kernel)
set_option maxRecDepth 20000 in
theorem gX11_greatest_J6_bitCount_0f7a4 : GoodIn wsX11_greatest (va_wsS RX11 118 yJ6_bitCount_0f7a4 wsJ6_bitCount_0f7a4) := goodIn_app (goodIn_of _ (by decide +kernel)) ggX11_greatest_J6_bitCount_0f7a4
theorem dX11_greatest_0 : decode cX11_greatest 0 = .ok (.aload_n 0, 1) := by decide +kernel
theorem dX11_greatest_1 : decode cX11_greatest 1 = .ok (.getfield 42, 3) := by decide +kernel
theorem dX11_greatest_4 : decode cX11_greatest 4 = .ok (.aload_n 0, 1) := by decide +kernel
theorem dX11_greatest_5 : decode cX11_greatest 5 = .ok (.getfield 10, 3) := by decide +kernel
theorem dX11_greatest_8 : decode cX11_greatest 8 = .ok (.invokevirtual 193, 3) := by decide +kernel
theorem dX11_greatest_11 : decode cX11_greatest 11 = .ok (.aload_n 0, 1) := by decide +kernel
theorem dX11_greatest_12 : decode cX11_greatest 12 = .ok (.getfield 42, 3) := by decide +kernel
theorem dX11_greatest_15 : decode cX11_greatest 15 = .ok (.invokevirtual 199, 3) := by decide +kernel
theorem dX11_greatest_18 : decode cX11_greatest 18 = .ok (.invokestatic 118, 3) := by decide +kernel
theorem dX11_greatest_21 : decode cX11_greatest 21 = .ok (.ireturn, 1) := by decide +kernel
set_option maxRecDepth 20000 in
theorem ggX11_sort_X4_all : GoodIn wsX11_sort wsX4_all := goodIn_r _ [5, 6, 30, 31, 32] (by decide +kernel) (by decide +kernel)
set_option maxRecDepth 20000 in
theorem gX11_sort_X4_all_n164 : GoodIn wsX11_sort (wsX4_all) := ggX11_sort_X4_all
set_option maxRecDepth 20000 in
theorem ggX11_sort_X4_isClique : GoodIn wsX11_sort wsX4_isClique := goodIn_r _ [9, 6, 10, 11, 12, 13, 30, 31, 32] (by decide +kernel) (by decide +kernel)
set_option maxRecDepth 20000 in
theorem gX11_sort_X4_isClique_n202 : GoodIn wsX11_sort (wsX4_isClique) := ggX11_sort_X4_isClique
set_option maxRecDepth 20000 in
theorem ggX11_sort_X4_isLoose : GoodIn wsX11_sort wsX4_isLoose := goodIn_r _ [16, 6, 10, 11, 12, 13, 30, 31, 32] (by decide +kernel) (by decide +kernel)
set_option maxRecDepth 20000 in
theorem gX11_sort_X4_isLoose_n205 : GoodIn wsX11_sort (wsX4_isLoose) := ggX11_sort_X4_isLoose
theorem dX11_sort_0 : decode cX11_sort 0 = .ok (.iload_n 1, 1) := by decide +kernel
theorem dX11_sort_1 : decode cX11_sort 1 = .ok (.ifCond .le 14, 3) := by decide +kernel
theorem dX11_sort_4 : decode cX11_sort 4 = .ok (.iload_n 1, 1) := by decide +kernel
theorem dX11_sort_5 : decode cX11_sort 5 = .ok (.aload_n 0, 1) := by decide +kernel
theorem dX11_sort_6 : decode cX11_sort 6 = .ok (.getfield 10, 3) := by decide +kernel
theorem dX11_sort_9 : decode cX11_sort 9 = .ok (.invokevirtual 164, 3) := by decide +kernel
theorem dX11_sort_12 : decode cX11_sort 12 = .ok (.if_icmp .le 5, 3) := by decide +kernel
theorem dX11_sort_15 : decode cX11_sort 15 = .ok (.iconst (-1), 1) := by decide +kernel
theorem dX11_sort_16 : decode cX11_sort 16 = .ok (.ireturn, 1) := by decide +kernel
theorem dX11_sort_17 : decode cX11_sort 17 = .ok (.aload_n 0, 1) := by decide +kernel
theorem dX11_sort_18 : decode cX11_sort 18 = .ok (.getfield 10, 3) := by decide +kernel
theorem dX11_sort_21 : decode cX11_sort 21 = .ok (.iload_n 1, 1) := by decide +kernel
theorem dX11_sort_22 : decode cX11_sort 22 = .ok (.invokevirtual 202, 3) := by decide +kernel
theorem dX11_sort_25 : decode cX11_sort 25 = .ok (.ifCond .eq 7, 3) := by decide +kernel
theorem dX11_sort_28 : decode cX11_sort 28 = .ok (.iconst 1, 1) := by decide +kernel
theorem dX11_sort_29 : decode cX11_sort 29 = .ok (.goto 4, 3) := by decide +kernel
theorem dX11_sort_32 : decode cX11_sort 32 = .ok (.iconst 0, 1) := by decide +kernel
theorem dX11_sort_33 : decode cX11_sort 33 = .ok (.istore_n 2, 1) := by decide +kernel
theorem dX11_sort_34 : decode cX11_sort 34 = .ok (.aload_n 0, 1) := by decide +kernel
theorem dX11_sort_35 : decode cX11_sort 35 = .ok (.getfield 10, 3) := by decide +kernel
theorem dX11_sort_38 : decode cX11_sort 38 = .ok (.iload_n 1, 1) := by decide +kernel
theorem dX11_sort_39 : decode cX11_sort 39 = .ok (.invokevirtual 205, 3) := by decide +kernel
theorem dX11_sort_42 : decode cX11_sort 42 = .ok (.ifCond .eq 7, 3) := by decide +kernel
theorem dX11_sort_45 : decode cX11_sort 45 = .ok (.iconst 2, 1) := by decide +kernel
theorem dX11_sort_46 : decode cX11_sort 46 = .ok (.goto 4, 3) := by decide +kernel
theorem dX11_sort_49 : decode cX11_sort 49 = .ok (.iconst 0, 1) := by decide +kernel
theorem dX11_sort_50 : decode cX11_sort 50 = .ok (.istore_n 3, 1) := by decide +kernel
theorem dX11_sort_51 : decode cX11_sort 51 = .ok (.iload_n 2, 1) := by decide +kernel
theorem dX11_sort_52 : decode cX11_sort 52 = .ok (.iload_n 3, 1) := by decide +kernel
theorem dX11_sort_53 : decode cX11_sort 53 = .ok (.iadd, 1) := by decide +kernel
theorem dX11_sort_54 : decode cX11_sort 54 = .ok (.ireturn, 1) := by decide +kernel
set_option maxRecDepth 20000 in
theorem ggX11_colour_X4_has : GoodIn wsX11_colour wsX4_has := goodIn_r _ [7, 8, 86, 87, 88] (by decide +kernel) (by decide +kernel)
set_option maxRecDepth 20000 in
theorem gX11_colour_X4_has_n93 : GoodIn wsX11_colour (wsX4_has) := ggX11_colour_X4_has
set_option maxRecDepth 20000 in
theorem ggX11_colour_X1_bring : GoodIn wsX11_colour wsX1_bring := goodIn_r _ [12, 13, 14, 15, 16, 17, 5, 18, 19, 8, 20, 21, 10, 22, 23, 24, 25, 26, 27, 28, 29, 30, 31, 32, 33, 34, 35, 36, 37, 38, 39, 89, 90, 91, 92, 93, 94, 95, 96, 86, 87, 88] (by decide +kernel) (by decide +kernel)
set_option maxRecDepth 20000 in
theorem gX11_colour_X1_bring_n193 : GoodIn wsX11_colour (wsX1_bring) := ggX11_colour_X1_bring
set_option maxRecDepth 20000 in
theorem ggX11_colour_X1_widest : GoodIn wsX11_colour wsX1_widest := goodIn_r _ [42, 14, 34, 43, 44, 37, 45, 46, 47, 48, 89, 90, 91, 92, 93, 94, 95, 96] (by decide +kernel) (by decide +kernel)
set_option maxRecDepth 20000 in
theorem gX11_colour_X1_widest_n199 : GoodIn wsX11_colour (wsX1_widest) := ggX11_colour_X1_widest
set_option maxRecDepth 20000 in
theorem ggX11_colour_J6_bitCount_0f7a4 : GoodIn wsX11_colour wsJ6_bitCount_0f7a4 := goodIn_r _ [45, 46, 47, 48] (by decide +kernel) (by decide +kernel)
set_option maxRecDepth 20000 in
theorem gX11_colour_J6_bitCount_0f7a4 : GoodIn wsX11_colour (va_wsS RX11 118 yJ6_bitCount_0f7a4 wsJ6_bitCount_0f7a4) := goodIn_app (goodIn_of _ (by decide +kernel)) ggX11_colour_J6_bitCount_0f7a4
set_option maxRecDepth 20000 in
theorem ggX11_colour_X7_bring : GoodIn wsX11_colour wsX7_bring := goodIn_r _ [53, 54, 55, 56, 57, 58, 59, 60, 61, 62, 51, 63, 64, 65, 66, 67, 68, 82, 83, 84, 85, 86, 87, 88] (by decide +kernel) (by decide +kernel)
set_option maxRecDepth 20000 in
theorem gX11_colour_X7_bring_n208 : GoodIn wsX11_colour (wsX7_bring) := ggX11_colour_X7_bring
theorem dX11_colour_0 : decode cX11_colour 0 = .ok (.iload_n 1, 1) := by decide +kernel
theorem dX11_colour_1 : decode cX11_colour 1 = .ok (.iconst (-1), 1) := by decide +kernel
theorem dX11_colour_2 : decode cX11_colour 2 = .ok (.if_icmp .eq 16, 3) := by decide +kernel
theorem dX11_colour_5 : decode cX11_colour 5 = .ok (.aload_n 0, 1) := by decide +kernel
theorem dX11_colour_6 : decode cX11_colour 6 = .ok (.getfield 10, 3) := by decide +kernel
theorem dX11_colour_9 : decode cX11_colour 9 = .ok (.iload_n 1, 1) := by decide +kernel
theorem dX11_colour_10 : decode cX11_colour 10 = .ok (.invokevirtual 93, 3) := by decide +kernel
theorem dX11_colour_13 : decode cX11_colour 13 = .ok (.ifCond .ne 5, 3) := by decide +kernel
theorem dX11_colour_16 : decode cX11_colour 16 = .ok (.iconst (-1), 1) := by decide +kernel
theorem dX11_colour_17 : decode cX11_colour 17 = .ok (.ireturn, 1) := by decide +kernel
theorem dX11_colour_18 : decode cX11_colour 18 = .ok (.aload_n 0, 1) := by decide +kernel
theorem dX11_colour_19 : decode cX11_colour 19 = .ok (.getfield 42, 3) := by decide +kernel
theorem dX11_colour_22 : decode cX11_colour 22 = .ok (.aload_n 0, 1) := by decide +kernel
theorem dX11_colour_23 : decode cX11_colour 23 = .ok (.getfield 10, 3) := by decide +kernel
theorem dX11_colour_26 : decode cX11_colour 26 = .ok (.invokevirtual 193, 3) := by decide +kernel
theorem dX11_colour_29 : decode cX11_colour 29 = .ok (.aload_n 0, 1) := by decide +kernel
theorem dX11_colour_30 : decode cX11_colour 30 = .ok (.getfield 52, 3) := by decide +kernel
theorem dX11_colour_33 : decode cX11_colour 33 = .ok (.aload_n 0, 1) := by decide +kernel
theorem dX11_colour_34 : decode cX11_colour 34 = .ok (.getfield 10, 3) := by decide +kernel
theorem dX11_colour_37 : decode cX11_colour 37 = .ok (.aload_n 0, 1) := by decide +kernel
theorem dX11_colour_38 : decode cX11_colour 38 = .ok (.getfield 42, 3) := by decide +kernel
theorem dX11_colour_41 : decode cX11_colour 41 = .ok (.invokevirtual 199, 3) := by decide +kernel
theorem dX11_colour_44 : decode cX11_colour 44 = .ok (.invokestatic 118, 3) := by decide +kernel
theorem dX11_colour_47 : decode cX11_colour 47 = .ok (.invokevirtual 208, 3) := by decide +kernel
theorem dX11_colour_50 : decode cX11_colour 50 = .ok (.iload_n 1, 1) := by decide +kernel
theorem dX11_colour_51 : decode cX11_colour 51 = .ok (.iconst (-1), 1) := by decide +kernel
theorem dX11_colour_52 : decode cX11_colour 52 = .ok (.if_icmp .ne 13, 3) := by decide +kernel
theorem dX11_colour_55 : decode cX11_colour 55 = .ok (.aload_n 0, 1) := by decide +kernel
theorem dX11_colour_56 : decode cX11_colour 56 = .ok (.getfield 52, 3) := by decide +kernel
theorem dX11_colour_59 : decode cX11_colour 59 = .ok (.getfield 210, 3) := by decide +kernel
theorem dX11_colour_62 : decode cX11_colour 62 = .ok (.goto 12, 3) := by decide +kernel
theorem dX11_colour_65 : decode cX11_colour 65 = .ok (.aload_n 0, 1) := by decide +kernel
theorem dX11_colour_66 : decode cX11_colour 66 = .ok (.getfield 52, 3) := by decide +kernel
theorem dX11_colour_69 : decode cX11_colour 69 = .ok (.getfield 213, 3) := by decide +kernel
theorem dX11_colour_72 : decode cX11_colour 72 = .ok (.iload_n 1, 1) := by decide +kernel
theorem dX11_colour_73 : decode cX11_colour 73 = .ok (.iaload, 1) := by decide +kernel
theorem dX11_colour_74 : decode cX11_colour 74 = .ok (.ireturn, 1) := by decide +kernel
set_option maxRecDepth 20000 in
theorem ggX11_apart_X1_bring : GoodIn wsX11_apart wsX1_bring := goodIn_r _ [6, 7, 8, 9, 10, 11, 12, 13, 14, 15, 16, 17, 4, 18, 19, 20, 21, 22, 23, 24, 25, 26, 27, 28, 29, 30, 31, 32, 33, 34, 35, 58, 59, 60, 61, 62, 63, 64, 65, 66, 67, 68] (by decide +kernel) (by decide +kernel)
set_option maxRecDepth 20000 in
theorem gX11_apart_X1_bring_n193 : GoodIn wsX11_apart (wsX1_bring) := ggX11_apart_X1_bring
set_option maxRecDepth 20000 in
theorem ggX11_apart_X1_widest : GoodIn wsX11_apart wsX1_widest := goodIn_r _ [38, 8, 30, 39, 40, 33, 41, 42, 43, 44, 58, 59, 60, 61, 62, 63, 64, 65] (by decide +kernel) (by decide +kernel)
set_option maxRecDepth 20000 in
theorem gX11_apart_X1_widest_n199 : GoodIn wsX11_apart (wsX1_widest) := ggX11_apart_X1_widest
theorem dX11_apart_0 : decode cX11_apart 0 = .ok (.aload_n 0, 1) := by decide +kernel
theorem dX11_apart_1 : decode cX11_apart 1 = .ok (.getfield 46, 3) := by decide +kernel
theorem dX11_apart_4 : decode cX11_apart 4 = .ok (.aload_n 0, 1) := by decide +kernel
theorem dX11_apart_5 : decode cX11_apart 5 = .ok (.getfield 10, 3) := by decide +kernel
theorem dX11_apart_8 : decode cX11_apart 8 = .ok (.invokevirtual 193, 3) := by decide +kernel
theorem dX11_apart_11 : decode cX11_apart 11 = .ok (.aload_n 0, 1) := by decide +kernel
theorem dX11_apart_12 : decode cX11_apart 12 = .ok (.getfield 46, 3) := by decide +kernel
theorem dX11_apart_15 : decode cX11_apart 15 = .ok (.invokevirtual 199, 3) := by decide +kernel
theorem dX11_apart_18 : decode cX11_apart 18 = .ok (.ireturn, 1) := by decide +kernel
set_option maxRecDepth 20000 in
theorem ggX11_tree_X1_bring : GoodIn wsX11_tree wsX1_bring := goodIn_r _ [7, 8, 9, 10, 11, 12, 13, 14, 15, 16, 17, 18, 5, 19, 20, 21, 22, 23, 24, 25, 26, 27, 28, 29, 30, 31, 32, 33, 34, 35, 36, 126, 127, 128, 129, 130, 131, 132, 133, 134, 135, 136] (by decide +kernel) (by decide +kernel)
set_option maxRecDepth 20000 in
theorem gX11_tree_X1_bring_n193 : GoodIn wsX11_tree (wsX1_bring) := ggX11_tree_X1_bring
set_option maxRecDepth 20000 in
theorem ggX11_tree_X1_has : GoodIn wsX11_tree wsX1_has := goodIn_r _ [39, 9, 126, 127, 128, 129, 130, 131, 132, 133] (by decide +kernel) (by decide +kernel)
set_option maxRecDepth 20000 in
theorem gX11_tree_X1_has_n195 : GoodIn wsX11_tree (wsX1_has) := ggX11_tree_X1_has
set_option maxRecDepth 20000 in
theorem ggX11_tree_X9_bring : GoodIn wsX11_tree wsX9_bring := goodIn_r _ [43, 44, 45, 46, 47, 48, 49, 50, 51, 52, 53, 54, 55, 56, 57, 58, 59, 60, 12, 13, 14, 15, 16, 61, 62, 63, 64, 24, 25, 26, 65, 66, 67, 68, 69, 70, 34, 71, 36, 72, 73, 74, 75, 76, 77, 78, 79, 80, 41, 81, 82, 83, 84, 85, 86, 87, 88, 89, 90, 91, 92, 122, 123, 124, 125, 134, 135, 136, 137, 138] (by decide +kernel) (by decide +kernel)
set_option maxRecDepth 20000 in
theorem gX11_tree_X9_bring_n123 : GoodIn wsX11_tree (wsX9_bring) := ggX11_tree_X9_bring
set_option maxRecDepth 20000 in
theorem ggX11_tree_X1_bringTree : GoodIn wsX11_tree wsX1_bringTree := goodIn_r _ [95, 96, 8, 97, 98, 9, 99, 100, 101, 5, 102, 31, 103, 104, 34, 105, 106, 107, 108, 24, 25, 26, 126, 127, 128, 129, 130, 131, 132, 133] (by decide +kernel) (by decide +kernel)
set_option maxRecDepth 20000 in
theorem gX11_tree_X1_bringTree_n216 : GoodIn wsX11_tree (wsX1_bringTree) := ggX11_tree_X1_bringTree
theorem dX11_tree_0 : decode cX11_tree 0 = .ok (.aload_n 0, 1) := by decide +kernel
theorem dX11_tree_1 : decode cX11_tree 1 = .ok (.getfield 42, 3) := by decide +kernel
theorem dX11_tree_4 : decode cX11_tree 4 = .ok (.aload_n 0, 1) := by decide +kernel
theorem dX11_tree_5 : decode cX11_tree 5 = .ok (.getfield 10, 3) := by decide +kernel
theorem dX11_tree_8 : decode cX11_tree 8 = .ok (.invokevirtual 193, 3) := by decide +kernel
theorem dX11_tree_11 : decode cX11_tree 11 = .ok (.aload_n 0, 1) := by decide +kernel
theorem dX11_tree_12 : decode cX11_tree 12 = .ok (.getfield 42, 3) := by decide +kernel
theorem dX11_tree_15 : decode cX11_tree 15 = .ok (.iload_n 1, 1) := by decide +kernel
theorem dX11_tree_16 : decode cX11_tree 16 = .ok (.invokevirtual 195, 3) := by decide +kernel
theorem dX11_tree_19 : decode cX11_tree 19 = .ok (.ifCond .eq 12, 3) := by decide +kernel
theorem dX11_tree_22 : decode cX11_tree 22 = .ok (.iload_n 2, 1) := by decide +kernel
theorem dX11_tree_23 : decode cX11_tree 23 = .ok (.ifCond .lt 8, 3) := by decide +kernel
theorem dX11_tree_26 : decode cX11_tree 26 = .ok (.iload_n 2, 1) := by decide +kernel
theorem dX11_tree_27 : decode cX11_tree 27 = .ok (.iconst 1, 1) := by decide +kernel
theorem dX11_tree_28 : decode cX11_tree 28 = .ok (.if_icmp .le 5, 3) := by decide +kernel
theorem dX11_tree_31 : decode cX11_tree 31 = .ok (.iconst (-1), 1) := by decide +kernel
theorem dX11_tree_32 : decode cX11_tree 32 = .ok (.ireturn, 1) := by decide +kernel
theorem dX11_tree_33 : decode cX11_tree 33 = .ok (.aload_n 0, 1) := by decide +kernel
theorem dX11_tree_34 : decode cX11_tree 34 = .ok (.getfield 33, 3) := by decide +kernel
theorem dX11_tree_37 : decode cX11_tree 37 = .ok (.aload_n 0, 1) := by decide +kernel
theorem dX11_tree_38 : decode cX11_tree 38 = .ok (.getfield 10, 3) := by decide +kernel
theorem dX11_tree_41 : decode cX11_tree 41 = .ok (.invokevirtual 123, 3) := by decide +kernel
theorem dX11_tree_44 : decode cX11_tree 44 = .ok (.aload_n 0, 1) := by decide +kernel
theorem dX11_tree_45 : decode cX11_tree 45 = .ok (.getfield 33, 3) := by decide +kernel
theorem dX11_tree_48 : decode cX11_tree 48 = .ok (.getfield 127, 3) := by decide +kernel
theorem dX11_tree_51 : decode cX11_tree 51 = .ok (.ifCond .ne 9, 3) := by decide +kernel
theorem dX11_tree_54 : decode cX11_tree 54 = .ok (.iload_n 1, 1) := by decide +kernel
theorem dX11_tree_55 : decode cX11_tree 55 = .ok (.bipush 12, 2) := by decide +kernel
theorem dX11_tree_57 : decode cX11_tree 57 = .ok (.if_icmp .lt 6, 3) := by decide +kernel
theorem dX11_tree_60 : decode cX11_tree 60 = .ok (.bipush (-4), 2) := by decide +kernel
theorem dX11_tree_62 : decode cX11_tree 62 = .ok (.ireturn, 1) := by decide +kernel
theorem dX11_tree_63 : decode cX11_tree 63 = .ok (.aload_n 0, 1) := by decide +kernel
theorem dX11_tree_64 : decode cX11_tree 64 = .ok (.getfield 42, 3) := by decide +kernel
theorem dX11_tree_67 : decode cX11_tree 67 = .ok (.invokevirtual 216, 3) := by decide +kernel
theorem dX11_tree_70 : decode cX11_tree 70 = .ok (.iload_n 2, 1) := by decide +kernel
theorem dX11_tree_71 : decode cX11_tree 71 = .ok (.ifCond .ne 15, 3) := by decide +kernel
theorem dX11_tree_74 : decode cX11_tree 74 = .ok (.aload_n 0, 1) := by decide +kernel
theorem dX11_tree_75 : decode cX11_tree 75 = .ok (.getfield 42, 3) := by decide +kernel
theorem dX11_tree_78 : decode cX11_tree 78 = .ok (.getfield 219, 3) := by decide +kernel
theorem dX11_tree_81 : decode cX11_tree 81 = .ok (.iload_n 1, 1) := by decide +kernel
theorem dX11_tree_82 : decode cX11_tree 82 = .ok (.iaload, 1) := by decide +kernel
theorem dX11_tree_83 : decode cX11_tree 83 = .ok (.goto 12, 3) := by decide +kernel
theorem dX11_tree_86 : decode cX11_tree 86 = .ok (.aload_n 0, 1) := by decide +kernel
theorem dX11_tree_87 : decode cX11_tree 87 = .ok (.getfield 42, 3) := by decide +kernel
theorem dX11_tree_90 : decode cX11_tree 90 = .ok (.getfield 222, 3) := by decide +kernel
theorem dX11_tree_93 : decode cX11_tree 93 = .ok (.iload_n 1, 1) := by decide +kernel
theorem dX11_tree_94 : decode cX11_tree 94 = .ok (.iaload, 1) := by decide +kernel
theorem dX11_tree_95 : decode cX11_tree 95 = .ok (.ireturn, 1) := by decide +kernel
set_option maxRecDepth 20000 in
theorem ggX11_part_X4_has : GoodIn wsX11_part wsX4_has := goodIn_r _ [6, 7, 70, 71, 72] (by decide +kernel) (by decide +kernel)
set_option maxRecDepth 20000 in
theorem gX11_part_X4_has_n93 : GoodIn wsX11_part (wsX4_has) := ggX11_part_X4_has
set_option maxRecDepth 20000 in
theorem ggX11_part_X4_touches : GoodIn wsX11_part wsX4_touches := goodIn_r _ [10, 11, 12, 13, 14, 70, 71, 72] (by decide +kernel) (by decide +kernel)
set_option maxRecDepth 20000 in
theorem gX11_part_X4_touches_n97 : GoodIn wsX11_part (wsX4_touches) := ggX11_part_X4_touches
set_option maxRecDepth 20000 in
theorem ggX11_part_X8_bring : GoodIn wsX11_part wsX8_bring := goodIn_r _ [18, 19, 20, 21, 22, 23, 4, 24, 25, 7, 26, 27, 28, 16, 29, 30, 31, 32, 11, 33, 13, 34, 35, 36, 37, 38, 39, 40, 41, 42, 12, 14, 43, 44, 45, 46, 47, 48, 49, 50, 51, 65, 66, 67, 68, 69, 70, 71, 72] (by decide +kernel) (by decide +kernel)
set_option maxRecDepth 20000 in
theorem gX11_part_X8_bring_n225 : GoodIn wsX11_part (wsX8_bring) := ggX11_part_X8_bring
theorem dX11_part_0 : decode cX11_part 0 = .ok (.aload_n 0, 1) := by decide +kernel
theorem dX11_part_1 : decode cX11_part 1 = .ok (.getfield 10, 3) := by decide +kernel
theorem dX11_part_4 : decode cX11_part 4 = .ok (.iload_n 1, 1) := by decide +kernel
theorem dX11_part_5 : decode cX11_part 5 = .ok (.invokevirtual 93, 3) := by decide +kernel
theorem dX11_part_8 : decode cX11_part 8 = .ok (.ifCond .eq 19, 3) := by decide +kernel
theorem dX11_part_11 : decode cX11_part 11 = .ok (.aload_n 0, 1) := by decide +kernel
theorem dX11_part_12 : decode cX11_part 12 = .ok (.getfield 10, 3) := by decide +kernel
theorem dX11_part_15 : decode cX11_part 15 = .ok (.iload_n 2, 1) := by decide +kernel
theorem dX11_part_16 : decode cX11_part 16 = .ok (.invokevirtual 93, 3) := by decide +kernel
theorem dX11_part_19 : decode cX11_part 19 = .ok (.ifCond .eq 8, 3) := by decide +kernel
theorem dX11_part_22 : decode cX11_part 22 = .ok (.iload_n 1, 1) := by decide +kernel
theorem dX11_part_23 : decode cX11_part 23 = .ok (.iload_n 2, 1) := by decide +kernel
theorem dX11_part_24 : decode cX11_part 24 = .ok (.if_icmp .ne 5, 3) := by decide +kernel
theorem dX11_part_27 : decode cX11_part 27 = .ok (.iconst (-1), 1) := by decide +kernel
theorem dX11_part_28 : decode cX11_part 28 = .ok (.ireturn, 1) := by decide +kernel
theorem dX11_part_29 : decode cX11_part 29 = .ok (.aload_n 0, 1) := by decide +kernel
theorem dX11_part_30 : decode cX11_part 30 = .ok (.getfield 10, 3) := by decide +kernel
theorem dX11_part_33 : decode cX11_part 33 = .ok (.iload_n 1, 1) := by decide +kernel
theorem dX11_part_34 : decode cX11_part 34 = .ok (.iload_n 2, 1) := by decide +kernel
theorem dX11_part_35 : decode cX11_part 35 = .ok (.invokevirtual 97, 3) := by decide +kernel
theorem dX11_part_38 : decode cX11_part 38 = .ok (.ifCond .eq 6, 3) := by decide +kernel
theorem dX11_part_41 : decode cX11_part 41 = .ok (.bipush (-4), 2) := by decide +kernel
theorem dX11_part_43 : decode cX11_part 43 = .ok (.ireturn, 1) := by decide +kernel
theorem dX11_part_44 : decode cX11_part 44 = .ok (.aload_n 0, 1) := by decide +kernel
theorem dX11_part_45 : decode cX11_part 45 = .ok (.getfield 59, 3) := by decide +kernel
theorem dX11_part_48 : decode cX11_part 48 = .ok (.aload_n 0, 1) := by decide +kernel
theorem dX11_part_49 : decode cX11_part 49 = .ok (.getfield 10, 3) := by decide +kernel
theorem dX11_part_52 : decode cX11_part 52 = .ok (.iload_n 1, 1) := by decide +kernel
theorem dX11_part_53 : decode cX11_part 53 = .ok (.iload_n 2, 1) := by decide +kernel
theorem dX11_part_54 : decode cX11_part 54 = .ok (.invokevirtual 225, 3) := by decide +kernel
theorem dX11_part_57 : decode cX11_part 57 = .ok (.iload_n 3, 1) := by decide +kernel
theorem dX11_part_58 : decode cX11_part 58 = .ok (.iconst (-1), 1) := by decide +kernel
theorem dX11_part_59 : decode cX11_part 59 = .ok (.if_icmp .ne 11, 3) := by decide +kernel
theorem dX11_part_62 : decode cX11_part 62 = .ok (.aload_n 0, 1) := by decide +kernel
theorem dX11_part_63 : decode cX11_part 63 = .ok (.getfield 59, 3) := by decide +kernel
theorem dX11_part_66 : decode cX11_part 66 = .ok (.getfield 228, 3) := by decide +kernel
theorem dX11_part_69 : decode cX11_part 69 = .ok (.ireturn, 1) := by decide +kernel
theorem dX11_part_70 : decode cX11_part 70 = .ok (.iload_n 3, 1) := by decide +kernel
theorem dX11_part_71 : decode cX11_part 71 = .ok (.ifCond .lt 26, 3) := by decide +kernel
theorem dX11_part_74 : decode cX11_part 74 = .ok (.iload_n 3, 1) := by decide +kernel
theorem dX11_part_75 : decode cX11_part 75 = .ok (.aload_n 0, 1) := by decide +kernel
theorem dX11_part_76 : decode cX11_part 76 = .ok (.getfield 59, 3) := by decide +kernel
theorem dX11_part_79 : decode cX11_part 79 = .ok (.getfield 228, 3) := by decide +kernel
theorem dX11_part_82 : decode cX11_part 82 = .ok (.if_icmp .ge 15, 3) := by decide +kernel
theorem dX11_part_85 : decode cX11_part 85 = .ok (.aload_n 0, 1) := by decide +kernel
theorem dX11_part_86 : decode cX11_part 86 = .ok (.getfield 59, 3) := by decide +kernel
theorem dX11_part_89 : decode cX11_part 89 = .ok (.getfield 229, 3) := by decide +kernel
theorem dX11_part_92 : decode cX11_part 92 = .ok (.iload_n 3, 1) := by decide +kernel
theorem dX11_part_93 : decode cX11_part 93 = .ok (.iaload, 1) := by decide +kernel
theorem dX11_part_94 : decode cX11_part 94 = .ok (.goto 5, 3) := by decide +kernel
theorem dX11_part_97 : decode cX11_part 97 = .ok (.bipush (-9), 2) := by decide +kernel
