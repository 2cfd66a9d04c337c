theorem dX0_init_0 : decode cX0_init 0 = .ok (.aload_n 0, 1) := by decide +kernel
theorem dX0_init_1 : decode cX0_init 1 = .ok (.invokespecial 3, 3) := by decide +kernel
theorem dX0_init_4 : decode cX0_init 4 = .ok (.aload_n 0, 1) := by decide +kernel
theorem dX0_init_5 : decode cX0_init 5 = .ok (.bipush 12, 2) := by decide +kernel
theorem dX0_init_7 : decode cX0_init 7 = .ok (.bipush 12, 2) := by decide +kernel
theorem dX0_init_9 : decode cX0_init 9 = .ok (.invokestatic 9, 3) := by decide +kernel
theorem dX0_init_12 : decode cX0_init 12 = .ok (.newarray .int, 2) := by decide +kernel
theorem dX0_init_14 : decode cX0_init 14 = .ok (.putfield 15, 3) := by decide +kernel
theorem dX0_init_17 : decode cX0_init 17 = .ok (.aload_n 0, 1) := by decide +kernel
theorem dX0_init_18 : decode cX0_init 18 = .ok (.iconst 0, 1) := by decide +kernel
theorem dX0_init_19 : decode cX0_init 19 = .ok (.putfield 21, 3) := by decide +kernel
theorem dX0_init_22 : decode cX0_init 22 = .ok (.aload_n 0, 1) := by decide +kernel
theorem dX0_init_23 : decode cX0_init 23 = .ok (.iconst 0, 1) := by decide +kernel
theorem dX0_init_24 : decode cX0_init 24 = .ok (.putfield 25, 3) := by decide +kernel
theorem dX0_init_27 : decode cX0_init 27 = .ok (.aload_n 0, 1) := by decide +kernel
theorem dX0_init_28 : decode cX0_init 28 = .ok (.iconst 0, 1) := by decide +kernel
theorem dX0_init_29 : decode cX0_init 29 = .ok (.putfield 28, 3) := by decide +kernel
theorem dX0_init_32 : decode cX0_init 32 = .ok (.aload_n 0, 1) := by decide +kernel
theorem dX0_init_33 : decode cX0_init 33 = .ok (.iconst 0, 1) := by decide +kernel
theorem dX0_init_34 : decode cX0_init 34 = .ok (.putfield 31, 3) := by decide +kernel
theorem dX0_init_37 : decode cX0_init 37 = .ok (.aload_n 0, 1) := by decide +kernel
theorem dX0_init_38 : decode cX0_init 38 = .ok (.iconst (-1), 1) := by decide +kernel
theorem dX0_init_39 : decode cX0_init 39 = .ok (.putfield 35, 3) := by decide +kernel
theorem dX0_init_42 : decode cX0_init 42 = .ok (.aload_n 0, 1) := by decide +kernel
theorem dX0_init_43 : decode cX0_init 43 = .ok (.iconst 1, 1) := by decide +kernel
theorem dX0_init_44 : decode cX0_init 44 = .ok (.iload_n 1, 1) := by decide +kernel
theorem dX0_init_45 : decode cX0_init 45 = .ok (.ishl, 1) := by decide +kernel
theorem dX0_init_46 : decode cX0_init 46 = .ok (.newarray .int, 2) := by decide +kernel
theorem dX0_init_48 : decode cX0_init 48 = .ok (.putfield 38, 3) := by decide +kernel
theorem dX0_init_51 : decode cX0_init 51 = .ok (.aload_n 0, 1) := by decide +kernel
theorem dX0_init_52 : decode cX0_init 52 = .ok (.iload_n 1, 1) := by decide +kernel
theorem dX0_init_53 : decode cX0_init 53 = .ok (.newarray .int, 2) := by decide +kernel
theorem dX0_init_55 : decode cX0_init 55 = .ok (.putfield 41, 3) := by decide +kernel
theorem dX0_init_58 : decode cX0_init 58 = .ok (.return_, 1) := by decide +kernel
theorem dX0_restart_0 : decode cX0_restart 0 = .ok (.aload_n 0, 1) := by decide +kernel
theorem dX0_restart_1 : decode cX0_restart 1 = .ok (.iload_n 1, 1) := by decide +kernel
theorem dX0_restart_2 : decode cX0_restart 2 = .ok (.putfield 25, 3) := by decide +kernel
theorem dX0_restart_5 : decode cX0_restart 5 = .ok (.aload_n 0, 1) := by decide +kernel
theorem dX0_restart_6 : decode cX0_restart 6 = .ok (.iconst 0, 1) := by decide +kernel
theorem dX0_restart_7 : decode cX0_restart 7 = .ok (.putfield 21, 3) := by decide +kernel
theorem dX0_restart_10 : decode cX0_restart 10 = .ok (.return_, 1) := by decide +kernel
set_option maxRecDepth 20000 in
theorem ggX0_findFirst_J7_fill_fda19 : GoodIn wsX0_findFirst wsJ7_fill_fda19 := goodIn_r _ [7, 8, 9, 6, 10] (by decide +kernel) (by decide +kernel)
set_option maxRecDepth 20000 in
theorem gX0_findFirst_J7_fill_fda19 : GoodIn wsX0_findFirst (va_wsS RX0 48 yJ7_fill_fda19 wsJ7_fill_fda19) := goodIn_app (goodIn_of _ (by decide +kernel)) ggX0_findFirst_J7_fill_fda19
set_option maxRecDepth 20000 in
theorem ggX0_findFirst_X0_seatsRest : GoodIn wsX0_findFirst wsX0_seatsRest := goodIn_r _ [14, 2, 1, 15, 16, 17, 18, 13, 19, 20, 21, 22, 23, 24, 11, 12, 25, 26, 27, 28, 29, 30, 31, 32] (by decide +kernel) (by decide +kernel)
set_option maxRecDepth 20000 in
theorem gX0_findFirst_X0_seatsRest : GoodIn wsX0_findFirst (va_wsS RX0 54 yX0_seatsRest wsX0_seatsRest) := goodIn_app (goodIn_of _ (by decide +kernel)) ggX0_findFirst_X0_seatsRest
theorem dX0_findFirst_0 : decode cX0_findFirst 0 = .ok (.aload_n 0, 1) := by decide +kernel
theorem dX0_findFirst_1 : decode cX0_findFirst 1 = .ok (.getfield 38, 3) := by decide +kernel
theorem dX0_findFirst_4 : decode cX0_findFirst 4 = .ok (.iconst 0, 1) := by decide +kernel
theorem dX0_findFirst_5 : decode cX0_findFirst 5 = .ok (.iconst 1, 1) := by decide +kernel
theorem dX0_findFirst_6 : decode cX0_findFirst 6 = .ok (.aload_n 0, 1) := by decide +kernel
theorem dX0_findFirst_7 : decode cX0_findFirst 7 = .ok (.getfield 25, 3) := by decide +kernel
theorem dX0_findFirst_10 : decode cX0_findFirst 10 = .ok (.ishl, 1) := by decide +kernel
theorem dX0_findFirst_11 : decode cX0_findFirst 11 = .ok (.iconst 0, 1) := by decide +kernel
theorem dX0_findFirst_12 : decode cX0_findFirst 12 = .ok (.invokestatic 48, 3) := by decide +kernel
theorem dX0_findFirst_15 : decode cX0_findFirst 15 = .ok (.aload_n 0, 1) := by decide +kernel
theorem dX0_findFirst_16 : decode cX0_findFirst 16 = .ok (.aload_n 0, 1) := by decide +kernel
theorem dX0_findFirst_17 : decode cX0_findFirst 17 = .ok (.iconst 0, 1) := by decide +kernel
theorem dX0_findFirst_18 : decode cX0_findFirst 18 = .ok (.iconst 0, 1) := by decide +kernel
theorem dX0_findFirst_19 : decode cX0_findFirst 19 = .ok (.invokestatic 54, 3) := by decide +kernel
theorem dX0_findFirst_22 : decode cX0_findFirst 22 = .ok (.putfield 31, 3) := by decide +kernel
theorem dX0_findFirst_25 : decode cX0_findFirst 25 = .ok (.return_, 1) := by decide +kernel
theorem dX0_seatsRest_0 : decode cX0_seatsRest 0 = .ok (.iload_n 2, 1) := by decide +kernel
theorem dX0_seatsRest_1 : decode cX0_seatsRest 1 = .ok (.aload_n 0, 1) := by decide +kernel
theorem dX0_seatsRest_2 : decode cX0_seatsRest 2 = .ok (.getfield 25, 3) := by decide +kernel
theorem dX0_seatsRest_5 : decode cX0_seatsRest 5 = .ok (.if_icmp .lt 5, 3) := by decide +kernel
theorem dX0_seatsRest_8 : decode cX0_seatsRest 8 = .ok (.iconst 1, 1) := by decide +kernel
theorem dX0_seatsRest_9 : decode cX0_seatsRest 9 = .ok (.ireturn, 1) := by decide +kernel
set_option maxRecDepth 20000 in
theorem ggX0_countWays_J7_fill_fda19 : GoodIn wsX0_countWays wsJ7_fill_fda19 := goodIn_r _ [7, 8, 9, 6, 10] (by decide +kernel) (by decide +kernel)
set_option maxRecDepth 20000 in
theorem gX0_countWays_J7_fill_fda19 : GoodIn wsX0_countWays (va_wsS RX0 48 yJ7_fill_fda19 wsJ7_fill_fda19) := goodIn_app (goodIn_of _ (by decide +kernel)) ggX0_countWays_J7_fill_fda19
theorem dX0_countWays_0 : decode cX0_countWays 0 = .ok (.iconst 1, 1) := by decide +kernel
theorem dX0_countWays_1 : decode cX0_countWays 1 = .ok (.aload_n 0, 1) := by decide +kernel
theorem dX0_countWays_2 : decode cX0_countWays 2 = .ok (.getfield 25, 3) := by decide +kernel
theorem dX0_countWays_5 : decode cX0_countWays 5 = .ok (.ishl, 1) := by decide +kernel
theorem dX0_countWays_6 : decode cX0_countWays 6 = .ok (.iconst 1, 1) := by decide +kernel
theorem dX0_countWays_7 : decode cX0_countWays 7 = .ok (.isub, 1) := by decide +kernel
theorem dX0_countWays_8 : decode cX0_countWays 8 = .ok (.istore_n 1, 1) := by decide +kernel
theorem dX0_countWays_9 : decode cX0_countWays 9 = .ok (.aload_n 0, 1) := by decide +kernel
theorem dX0_countWays_10 : decode cX0_countWays 10 = .ok (.getfield 38, 3) := by decide +kernel
theorem dX0_countWays_13 : decode cX0_countWays 13 = .ok (.iconst 0, 1) := by decide +kernel
theorem dX0_countWays_14 : decode cX0_countWays 14 = .ok (.iload_n 1, 1) := by decide +kernel
theorem dX0_countWays_15 : decode cX0_countWays 15 = .ok (.iconst 1, 1) := by decide +kernel
theorem dX0_countWays_16 : decode cX0_countWays 16 = .ok (.iadd, 1) := by decide +kernel
theorem dX0_countWays_17 : decode cX0_countWays 17 = .ok (.iconst 0, 1) := by decide +kernel
theorem dX0_countWays_18 : decode cX0_countWays 18 = .ok (.invokestatic 48, 3) := by decide +kernel
theorem dX0_countWays_21 : decode cX0_countWays 21 = .ok (.aload_n 0, 1) := by decide +kernel
theorem dX0_countWays_22 : decode cX0_countWays 22 = .ok (.getfield 38, 3) := by decide +kernel
theorem dX0_countWays_25 : decode cX0_countWays 25 = .ok (.iconst 0, 1) := by decide +kernel
theorem dX0_countWays_26 : decode cX0_countWays 26 = .ok (.iconst 1, 1) := by decide +kernel
theorem dX0_countWays_27 : decode cX0_countWays 27 = .ok (.iastore, 1) := by decide +kernel
theorem dX0_countWays_28 : decode cX0_countWays 28 = .ok (.iconst 0, 1) := by decide +kernel
theorem dX0_countWays_29 : decode cX0_countWays 29 = .ok (.istore_n 2, 1) := by decide +kernel
theorem dX0_countWays_30 : decode cX0_countWays 30 = .ok (.iload_n 2, 1) := by decide +kernel
theorem dX0_countWays_31 : decode cX0_countWays 31 = .ok (.iload_n 1, 1) := by decide +kernel
theorem dX0_countWays_32 : decode cX0_countWays 32 = .ok (.if_icmp .ge 75, 3) := by decide +kernel
theorem dX0_countWays_107 : decode cX0_countWays 107 = .ok (.aload_n 0, 1) := by decide +kernel
theorem dX0_countWays_108 : decode cX0_countWays 108 = .ok (.aload_n 0, 1) := by decide +kernel
theorem dX0_countWays_109 : decode cX0_countWays 109 = .ok (.getfield 38, 3) := by decide +kernel
theorem dX0_countWays_112 : decode cX0_countWays 112 = .ok (.iload_n 1, 1) := by decide +kernel
theorem dX0_countWays_113 : decode cX0_countWays 113 = .ok (.iaload, 1) := by decide +kernel
theorem dX0_countWays_114 : decode cX0_countWays 114 = .ok (.putfield 28, 3) := by decide +kernel
theorem dX0_countWays_117 : decode cX0_countWays 117 = .ok (.return_, 1) := by decide +kernel
theorem dX1_init_0 : decode cX1_init 0 = .ok (.aload_n 0, 1) := by decide +kernel
theorem dX1_init_1 : decode cX1_init 1 = .ok (.invokespecial 3, 3) := by decide +kernel
theorem dX1_init_4 : decode cX1_init 4 = .ok (.aload_n 0, 1) := by decide +kernel
theorem dX1_init_5 : decode cX1_init 5 = .ok (.bipush 12, 2) := by decide +kernel
theorem dX1_init_7 : decode cX1_init 7 = .ok (.newarray .int, 2) := by decide +kernel
theorem dX1_init_9 : decode cX1_init 9 = .ok (.putfield 9, 3) := by decide +kernel
theorem dX1_init_12 : decode cX1_init 12 = .ok (.aload_n 0, 1) := by decide +kernel
theorem dX1_init_13 : decode cX1_init 13 = .ok (.bipush 81, 2) := by decide +kernel
theorem dX1_init_15 : decode cX1_init 15 = .ok (.newarray .int, 2) := by decide +kernel
theorem dX1_init_17 : decode cX1_init 17 = .ok (.putfield 15, 3) := by decide +kernel
theorem dX1_init_20 : decode cX1_init 20 = .ok (.aload_n 0, 1) := by decide +kernel
theorem dX1_init_21 : decode cX1_init 21 = .ok (.bipush 12, 2) := by decide +kernel
theorem dX1_init_23 : decode cX1_init 23 = .ok (.newarray .int, 2) := by decide +kernel
theorem dX1_init_25 : decode cX1_init 25 = .ok (.putfield 18, 3) := by decide +kernel
theorem dX1_init_28 : decode cX1_init 28 = .ok (.aload_n 0, 1) := by decide +kernel
theorem dX1_init_29 : decode cX1_init 29 = .ok (.bipush 12, 2) := by decide +kernel
theorem dX1_init_31 : decode cX1_init 31 = .ok (.newarray .int, 2) := by decide +kernel
theorem dX1_init_33 : decode cX1_init 33 = .ok (.putfield 21, 3) := by decide +kernel
theorem dX1_init_36 : decode cX1_init 36 = .ok (.aload_n 0, 1) := by decide +kernel
theorem dX1_init_37 : decode cX1_init 37 = .ok (.iconst 0, 1) := by decide +kernel
theorem dX1_init_38 : decode cX1_init 38 = .ok (.putfield 24, 3) := by decide +kernel
theorem dX1_init_41 : decode cX1_init 41 = .ok (.aload_n 0, 1) := by decide +kernel
theorem dX1_init_42 : decode cX1_init 42 = .ok (.iconst (-1), 1) := by decide +kernel
theorem dX1_init_43 : decode cX1_init 43 = .ok (.putfield 28, 3) := by decide +kernel
theorem dX1_init_46 : decode cX1_init 46 = .ok (.aload_n 0, 1) := by decide +kernel
theorem dX1_init_47 : decode cX1_init 47 = .ok (.iconst (-1), 1) := by decide +kernel
theorem dX1_init_48 : decode cX1_init 48 = .ok (.putfield 31, 3) := by decide +kernel
theorem dX1_init_51 : decode cX1_init 51 = .ok (.aload_n 0, 1) := by decide +kernel
theorem dX1_init_52 : decode cX1_init 52 = .ok (.iload_n 1, 1) := by decide +kernel
theorem dX1_init_53 : decode cX1_init 53 = .ok (.putfield 34, 3) := by decide +kernel
theorem dX1_init_56 : decode cX1_init 56 = .ok (.return_, 1) := by decide +kernel
theorem dX1_has_0 : decode cX1_has 0 = .ok (.iload_n 1, 1) := by decide +kernel
theorem dX1_has_1 : decode cX1_has 1 = .ok (.ifCond .lt 15, 3) := by decide +kernel
theorem dX1_has_4 : decode cX1_has 4 = .ok (.iload_n 1, 1) := by decide +kernel
theorem dX1_has_5 : decode cX1_has 5 = .ok (.aload_n 0, 1) := by decide +kernel
theorem dX1_has_6 : decode cX1_has 6 = .ok (.getfield 24, 3) := by decide +kernel
theorem dX1_has_9 : decode cX1_has 9 = .ok (.if_icmp .ge 7, 3) := by decide +kernel
theorem dX1_has_16 : decode cX1_has 16 = .ok (.iconst 0, 1) := by decide +kernel
theorem dX1_has_17 : decode cX1_has 17 = .ok (.ireturn, 1) := by decide +kernel
set_option maxRecDepth 20000 in
theorem ggX1_bring_X4_all : GoodIn wsX1_bring wsX4_all := goodIn_r _ [8, 9, 39, 40, 41] (by decide +kernel) (by decide +kernel)
set_option maxRecDepth 20000 in
theorem gX1_bring_X4_all_n44 : GoodIn wsX1_bring (wsX4_all) := ggX1_bring_X4_all
set_option maxRecDepth 20000 in
theorem ggX1_bring_X1_gather : GoodIn wsX1_bring wsX1_gather := goodIn_r _ [13, 3, 14, 15, 16, 12, 17, 18, 19, 20, 21, 22, 23, 24, 2, 25, 26, 27, 28, 29, 30, 10, 11, 31, 32, 33, 34, 35, 36, 37, 38] (by decide +kernel) (by decide +kernel)
set_option maxRecDepth 20000 in
theorem gX1_bring_X1_gather : GoodIn wsX1_bring (va_wsS RX1 49 yX1_gather wsX1_gather) := goodIn_app (goodIn_of _ (by decide +kernel)) ggX1_bring_X1_gather
theorem dX1_bring_0 : decode cX1_bring 0 = .ok (.aload_n 0, 1) := by decide +kernel
theorem dX1_bring_1 : decode cX1_bring 1 = .ok (.getfield 28, 3) := by decide +kernel
theorem dX1_bring_4 : decode cX1_bring 4 = .ok (.aload_n 1, 1) := by decide +kernel
theorem dX1_bring_5 : decode cX1_bring 5 = .ok (.getfield 38, 3) := by decide +kernel
theorem dX1_bring_8 : decode cX1_bring 8 = .ok (.if_icmp .ne 4, 3) := by decide +kernel
theorem dX1_bring_12 : decode cX1_bring 12 = .ok (.aload_n 0, 1) := by decide +kernel
theorem dX1_bring_13 : decode cX1_bring 13 = .ok (.aload_n 1, 1) := by decide +kernel
theorem dX1_bring_14 : decode cX1_bring 14 = .ok (.getfield 38, 3) := by decide +kernel
theorem dX1_bring_17 : decode cX1_bring 17 = .ok (.putfield 28, 3) := by decide +kernel
theorem dX1_bring_20 : decode cX1_bring 20 = .ok (.aload_n 0, 1) := by decide +kernel
theorem dX1_bring_21 : decode cX1_bring 21 = .ok (.iconst 0, 1) := by decide +kernel
theorem dX1_bring_22 : decode cX1_bring 22 = .ok (.putfield 24, 3) := by decide +kernel
theorem dX1_bring_25 : decode cX1_bring 25 = .ok (.iconst 0, 1) := by decide +kernel
theorem dX1_bring_26 : decode cX1_bring 26 = .ok (.istore_n 2, 1) := by decide +kernel
theorem dX1_bring_27 : decode cX1_bring 27 = .ok (.iload_n 2, 1) := by decide +kernel
theorem dX1_bring_28 : decode cX1_bring 28 = .ok (.aload_n 1, 1) := by decide +kernel
theorem dX1_bring_29 : decode cX1_bring 29 = .ok (.getfield 43, 3) := by decide +kernel
theorem dX1_bring_32 : decode cX1_bring 32 = .ok (.if_icmp .ge 50, 3) := by decide +kernel
theorem dX1_bring_82 : decode cX1_bring 82 = .ok (.aload_n 0, 1) := by decide +kernel
theorem dX1_bring_83 : decode cX1_bring 83 = .ok (.iconst 0, 1) := by decide +kernel
theorem dX1_bring_84 : decode cX1_bring 84 = .ok (.aload_n 1, 1) := by decide +kernel
theorem dX1_bring_85 : decode cX1_bring 85 = .ok (.invokevirtual 44, 3) := by decide +kernel
theorem dX1_bring_88 : decode cX1_bring 88 = .ok (.iconst 0, 1) := by decide +kernel
theorem dX1_bring_89 : decode cX1_bring 89 = .ok (.iconst 0, 1) := by decide +kernel
theorem dX1_bring_90 : decode cX1_bring 90 = .ok (.invokestatic 49, 3) := by decide +kernel
theorem dX1_bring_93 : decode cX1_bring 93 = .ok (.return_, 1) := by decide +kernel
set_option maxRecDepth 20000 in
theorem ggX1_gather_X1_canNotBeGreat : GoodIn wsX1_gather wsX1_canNotBeGreat := goodIn_r _ [6, 1, 7, 8, 9, 23, 24, 25, 26, 27, 28, 29, 30] (by decide +kernel) (by decide +kernel)
set_option maxRecDepth 20000 in
theorem gX1_gather_X1_canNotBeGreat : GoodIn wsX1_gather (wsV RX1 53 RX1 yX1_canNotBeGreat wsX1_canNotBeGreat) := goodIn_app (goodIn_of _ (by decide +kernel)) ggX1_gather_X1_canNotBeGreat
set_option maxRecDepth 20000 in
theorem ggX1_gather_X1_keep : GoodIn wsX1_gather wsX1_keep := goodIn_r _ [13, 14, 15, 23, 24, 25, 26, 27, 28, 29, 30] (by decide +kernel) (by decide +kernel)
set_option maxRecDepth 20000 in
theorem gX1_gather_X1_keep : GoodIn wsX1_gather (wsV RX1 57 RX1 yX1_keep wsX1_keep) := goodIn_app (goodIn_of _ (by decide +kernel)) ggX1_gather_X1_keep
theorem dX1_gather_0 : decode cX1_gather 0 = .ok (.iload 4, 2) := by decide +kernel
theorem dX1_gather_2 : decode cX1_gather 2 = .ok (.bipush 12, 2) := by decide +kernel
theorem dX1_gather_4 : decode cX1_gather 4 = .ok (.if_icmp .gt 12, 3) := by decide +kernel
theorem dX1_gather_7 : decode cX1_gather 7 = .ok (.aload_n 0, 1) := by decide +kernel
theorem dX1_gather_8 : decode cX1_gather 8 = .ok (.iload_n 2, 1) := by decide +kernel
theorem dX1_gather_9 : decode cX1_gather 9 = .ok (.iload_n 3, 1) := by decide +kernel
theorem dX1_gather_10 : decode cX1_gather 10 = .ok (.invokevirtual 53, 3) := by decide +kernel
theorem dX1_gather_13 : decode cX1_gather 13 = .ok (.ifCond .eq 4, 3) := by decide +kernel
theorem dX1_gather_17 : decode cX1_gather 17 = .ok (.iload_n 2, 1) := by decide +kernel
theorem dX1_gather_18 : decode cX1_gather 18 = .ok (.ifCond .ne 9, 3) := by decide +kernel
theorem dX1_gather_21 : decode cX1_gather 21 = .ok (.aload_n 0, 1) := by decide +kernel
theorem dX1_gather_22 : decode cX1_gather 22 = .ok (.iload_n 1, 1) := by decide +kernel
theorem dX1_gather_23 : decode cX1_gather 23 = .ok (.invokevirtual 57, 3) := by decide +kernel
theorem dX1_gather_26 : decode cX1_gather 26 = .ok (.return_, 1) := by decide +kernel
set_option maxRecDepth 20000 in
theorem ggX1_canNotBeGreat_X11_in : GoodIn wsX1_canNotBeGreat wsX11_in := goodIn_r _ [4] (by decide +kernel) (by decide +kernel)
set_option maxRecDepth 20000 in
theorem gX1_canNotBeGreat_X11_in_n67 : GoodIn wsX1_canNotBeGreat (wsX11_in) := ggX1_canNotBeGreat_X11_in
theorem dX1_canNotBeGreat_0 : decode cX1_canNotBeGreat 0 = .ok (.iconst 0, 1) := by decide +kernel
theorem dX1_canNotBeGreat_1 : decode cX1_canNotBeGreat 1 = .ok (.istore_n 3, 1) := by decide +kernel
theorem dX1_canNotBeGreat_2 : decode cX1_canNotBeGreat 2 = .ok (.iload_n 3, 1) := by decide +kernel
theorem dX1_canNotBeGreat_3 : decode cX1_canNotBeGreat 3 = .ok (.bipush 12, 2) := by decide +kernel
theorem dX1_canNotBeGreat_5 : decode cX1_canNotBeGreat 5 = .ok (.if_icmp .ge 32, 3) := by decide +kernel
theorem dX1_canNotBeGreat_8 : decode cX1_canNotBeGreat 8 = .ok (.iload_n 2, 1) := by decide +kernel
theorem dX1_canNotBeGreat_9 : decode cX1_canNotBeGreat 9 = .ok (.iload_n 3, 1) := by decide +kernel
theorem dX1_canNotBeGreat_10 : decode cX1_canNotBeGreat 10 = .ok (.invokestatic 67, 3) := by decide +kernel
theorem dX1_canNotBeGreat_13 : decode cX1_canNotBeGreat 13 = .ok (.ifCond .eq 18, 3) := by decide +kernel
theorem dX1_canNotBeGreat_31 : decode cX1_canNotBeGreat 31 = .ok (.iinc 3 1, 3) := by decide +kernel
theorem dX1_canNotBeGreat_34 : decode cX1_canNotBeGreat 34 = .ok (.goto (-32), 3) := by decide +kernel
theorem dX1_canNotBeGreat_37 : decode cX1_canNotBeGreat 37 = .ok (.iconst 0, 1) := by decide +kernel
theorem dX1_canNotBeGreat_38 : decode cX1_canNotBeGreat 38 = .ok (.ireturn, 1) := by decide +kernel
theorem dX1_keep_0 : decode cX1_keep 0 = .ok (.iload_n 1, 1) := by decide +kernel
theorem dX1_keep_1 : decode cX1_keep 1 = .ok (.ifCond .eq 32, 3) := by decide +kernel
theorem dX1_keep_33 : decode cX1_keep 33 = .ok (.return_, 1) := by decide +kernel
theorem dX1_widest_0 : decode cX1_widest 0 = .ok (.iconst 0, 1) := by decide +kernel
theorem dX1_widest_1 : decode cX1_widest 1 = .ok (.istore_n 1, 1) := by decide +kernel
theorem dX1_widest_2 : decode cX1_widest 2 = .ok (.iconst 0, 1) := by decide +kernel
theorem dX1_widest_3 : decode cX1_widest 3 = .ok (.istore_n 2, 1) := by decide +kernel
theorem dX1_widest_4 : decode cX1_widest 4 = .ok (.iload_n 2, 1) := by decide +kernel
theorem dX1_widest_5 : decode cX1_widest 5 = .ok (.aload_n 0, 1) := by decide +kernel
theorem dX1_widest_6 : decode cX1_widest 6 = .ok (.getfield 24, 3) := by decide +kernel
theorem dX1_widest_9 : decode cX1_widest 9 = .ok (.if_icmp .ge 32, 3) := by decide +kernel
theorem dX1_widest_41 : decode cX1_widest 41 = .ok (.iload_n 1, 1) := by decide +kernel
theorem dX1_widest_42 : decode cX1_widest 42 = .ok (.ireturn, 1) := by decide +kernel
theorem dX2_init_0 : decode cX2_init 0 = .ok (.aload_n 0, 1) := by decide +kernel
theorem dX2_init_1 : decode cX2_init 1 = .ok (.invokespecial 3, 3) := by decide +kernel
theorem dX2_init_4 : decode cX2_init 4 = .ok (.aload_n 0, 1) := by decide +kernel
theorem dX2_init_5 : decode cX2_init 5 = .ok (.bipush 12, 2) := by decide +kernel
theorem dX2_init_7 : decode cX2_init 7 = .ok (.bipush 12, 2) := by decide +kernel
theorem dX2_init_9 : decode cX2_init 9 = .ok (.multianewarray 9 2, 4) := by decide +kernel
theorem dX2_init_13 : decode cX2_init 13 = .ok (.putfield 11, 3) := by decide +kernel
theorem dX2_init_16 : decode cX2_init 16 = .ok (.aload_n 0, 1) := by decide +kernel
theorem dX2_init_17 : decode cX2_init 17 = .ok (.iconst 3, 1) := by decide +kernel
theorem dX2_init_18 : decode cX2_init 18 = .ok (.newarray .int, 2) := by decide +kernel
theorem dX2_init_20 : decode cX2_init 20 = .ok (.putfield 16, 3) := by decide +kernel
theorem dX2_init_23 : decode cX2_init 23 = .ok (.aload_n 0, 1) := by decide +kernel
theorem dX2_init_24 : decode cX2_init 24 = .ok (.iconst 0, 1) := by decide +kernel
theorem dX2_init_25 : decode cX2_init 25 = .ok (.putfield 20, 3) := by decide +kernel
theorem dX2_init_28 : decode cX2_init 28 = .ok (.aload_n 0, 1) := by decide +kernel
theorem dX2_init_29 : decode cX2_init 29 = .ok (.iconst (-1), 1) := by decide +kernel
theorem dX2_init_30 : decode cX2_init 30 = .ok (.putfield 24, 3) := by decide +kernel
theorem dX2_init_33 : decode cX2_init 33 = .ok (.return_, 1) := by decide +kernel
set_option maxRecDepth 20000 in
theorem ggX2_bring_X2_lookFor : GoodIn wsX2_bring wsX2_lookFor := goodIn_r _ [34, 8, 35, 14, 15, 16, 36, 37, 38, 39] (by decide +kernel) (by decide +kernel)
set_option maxRecDepth 20000 in
theorem gX2_bring_X2_lookFor : GoodIn wsX2_bring (wsV RX2 40 RX2 yX2_lookFor wsX2_lookFor) := goodIn_app (goodIn_of _ (by decide +kernel)) ggX2_bring_X2_lookFor
theorem dX2_bring_0 : decode cX2_bring 0 = .ok (.aload_n 0, 1) := by decide +kernel
theorem dX2_bring_1 : decode cX2_bring 1 = .ok (.getfield 24, 3) := by decide +kernel
theorem dX2_bring_4 : decode cX2_bring 4 = .ok (.aload_n 1, 1) := by decide +kernel
theorem dX2_bring_5 : decode cX2_bring 5 = .ok (.getfield 28, 3) := by decide +kernel
theorem dX2_bring_8 : decode cX2_bring 8 = .ok (.if_icmp .ne 4, 3) := by decide +kernel
theorem dX2_bring_12 : decode cX2_bring 12 = .ok (.aload_n 0, 1) := by decide +kernel
theorem dX2_bring_13 : decode cX2_bring 13 = .ok (.aload_n 1, 1) := by decide +kernel
theorem dX2_bring_14 : decode cX2_bring 14 = .ok (.getfield 28, 3) := by decide +kernel
theorem dX2_bring_17 : decode cX2_bring 17 = .ok (.putfield 24, 3) := by decide +kernel
theorem dX2_bring_20 : decode cX2_bring 20 = .ok (.iconst 0, 1) := by decide +kernel
theorem dX2_bring_21 : decode cX2_bring 21 = .ok (.istore_n 2, 1) := by decide +kernel
theorem dX2_bring_22 : decode cX2_bring 22 = .ok (.iload_n 2, 1) := by decide +kernel
theorem dX2_bring_23 : decode cX2_bring 23 = .ok (.aload_n 1, 1) := by decide +kernel
theorem dX2_bring_24 : decode cX2_bring 24 = .ok (.getfield 33, 3) := by decide +kernel
theorem dX2_bring_27 : decode cX2_bring 27 = .ok (.if_icmp .ge 15, 3) := by decide +kernel
theorem dX2_bring_42 : decode cX2_bring 42 = .ok (.aload_n 0, 1) := by decide +kernel
theorem dX2_bring_43 : decode cX2_bring 43 = .ok (.aload_n 0, 1) := by decide +kernel
theorem dX2_bring_44 : decode cX2_bring 44 = .ok (.aload_n 1, 1) := by decide +kernel
theorem dX2_bring_45 : decode cX2_bring 45 = .ok (.getfield 33, 3) := by decide +kernel
theorem dX2_bring_48 : decode cX2_bring 48 = .ok (.invokevirtual 40, 3) := by decide +kernel
theorem dX2_bring_51 : decode cX2_bring 51 = .ok (.putfield 20, 3) := by decide +kernel
theorem dX2_bring_54 : decode cX2_bring 54 = .ok (.return_, 1) := by decide +kernel
theorem dX2_lookFor_0 : decode cX2_lookFor 0 = .ok (.iconst 0, 1) := by decide +kernel
theorem dX2_lookFor_1 : decode cX2_lookFor 1 = .ok (.istore_n 2, 1) := by decide +kernel
theorem dX2_lookFor_2 : decode cX2_lookFor 2 = .ok (.iload_n 2, 1) := by decide +kernel
theorem dX2_lookFor_3 : decode cX2_lookFor 3 = .ok (.iload_n 1, 1) := by decide +kernel
theorem dX2_lookFor_4 : decode cX2_lookFor 4 = .ok (.if_icmp .ge 113, 3) := by decide +kernel
theorem dX2_lookFor_117 : decode cX2_lookFor 117 = .ok (.iconst 0, 1) := by decide +kernel
theorem dX2_lookFor_118 : decode cX2_lookFor 118 = .ok (.ireturn, 1) := by decide +kernel
theorem dX3_init_0 : decode cX3_init 0 = .ok (.aload_n 0, 1) := by decide +kernel
theorem dX3_init_1 : decode cX3_init 1 = .ok (.invokespecial 3, 3) := by decide +kernel
theorem dX3_init_4 : decode cX3_init 4 = .ok (.aload_n 0, 1) := by decide +kernel
theorem dX3_init_5 : decode cX3_init 5 = .ok (.bipush 13, 2) := by decide +kernel
theorem dX3_init_7 : decode cX3_init 7 = .ok (.bipush 12, 2) := by decide +kernel
theorem dX3_init_9 : decode cX3_init 9 = .ok (.multianewarray 9 2, 4) := by decide +kernel
theorem dX3_init_13 : decode cX3_init 13 = .ok (.putfield 11, 3) := by decide +kernel
theorem dX3_init_16 : decode cX3_init 16 = .ok (.aload_n 0, 1) := by decide +kernel
theorem dX3_init_17 : decode cX3_init 17 = .ok (.iconst 0, 1) := by decide +kernel
theorem dX3_init_18 : decode cX3_init 18 = .ok (.putfield 16, 3) := by decide +kernel
theorem dX3_init_21 : decode cX3_init 21 = .ok (.return_, 1) := by decide +kernel
theorem dX3_start_0 : decode cX3_start 0 = .ok (.aload_n 0, 1) := by decide +kernel
theorem dX3_start_1 : decode cX3_start 1 = .ok (.aload_n 1, 1) := by decide +kernel
theorem dX3_start_2 : decode cX3_start 2 = .ok (.getfield 20, 3) := by decide +kernel
theorem dX3_start_5 : decode cX3_start 5 = .ok (.putfield 16, 3) := by decide +kernel
theorem dX3_start_8 : decode cX3_start 8 = .ok (.aload_n 1, 1) := by decide +kernel
theorem dX3_start_9 : decode cX3_start 9 = .ok (.getfield 23, 3) := by decide +kernel
theorem dX3_start_12 : decode cX3_start 12 = .ok (.iconst 0, 1) := by decide +kernel
theorem dX3_start_13 : decode cX3_start 13 = .ok (.aload_n 0, 1) := by decide +kernel
theorem dX3_start_14 : decode cX3_start 14 = .ok (.getfield 11, 3) := by decide +kernel
theorem dX3_start_17 : decode cX3_start 17 = .ok (.iconst 0, 1) := by decide +kernel
theorem dX3_start_18 : decode cX3_start 18 = .ok (.aaload, 1) := by decide +kernel
theorem dX3_start_19 : decode cX3_start 19 = .ok (.iconst 0, 1) := by decide +kernel
theorem dX3_start_20 : decode cX3_start 20 = .ok (.bipush 12, 2) := by decide +kernel
theorem dX3_start_22 : decode cX3_start 22 = .ok (.invokestatic 26, 3) := by decide +kernel
theorem dX3_start_25 : decode cX3_start 25 = .ok (.return_, 1) := by decide +kernel
set_option maxRecDepth 20000 in
theorem ggX3_goesWithoutFill_X3_start : GoodIn wsX3_goesWithoutFill wsX3_start := goodIn_r _ [6, 1, 7, 8, 9, 10, 11, 41, 42, 43, 39, 40] (by decide +kernel) (by decide +kernel)
set_option maxRecDepth 20000 in
theorem gX3_goesWithoutFill_X3_start : GoodIn wsX3_goesWithoutFill (wsV RX3 66 RX3 yX3_start wsX3_start) := goodIn_app (goodIn_of _ (by decide +kernel)) ggX3_goesWithoutFill_X3_start
set_option maxRecDepth 20000 in
theorem ggX3_goesWithoutFill_X4_all : GoodIn wsX3_goesWithoutFill wsX4_all := goodIn_r _ [15, 16, 41, 42, 43] (by decide +kernel) (by decide +kernel)
set_option maxRecDepth 20000 in
theorem gX3_goesWithoutFill_X4_all_n70 : GoodIn wsX3_goesWithoutFill (wsX4_all) := ggX3_goesWithoutFill_X4_all
theorem dX3_goesWithoutFill_0 : decode cX3_goesWithoutFill 0 = .ok (.aload_n 0, 1) := by decide +kernel
theorem dX3_goesWithoutFill_1 : decode cX3_goesWithoutFill 1 = .ok (.aload_n 1, 1) := by decide +kernel
theorem dX3_goesWithoutFill_2 : decode cX3_goesWithoutFill 2 = .ok (.invokevirtual 66, 3) := by decide +kernel
theorem dX3_goesWithoutFill_5 : decode cX3_goesWithoutFill 5 = .ok (.aload_n 1, 1) := by decide +kernel
theorem dX3_goesWithoutFill_6 : decode cX3_goesWithoutFill 6 = .ok (.invokevirtual 70, 3) := by decide +kernel
theorem dX3_goesWithoutFill_9 : decode cX3_goesWithoutFill 9 = .ok (.istore_n 2, 1) := by decide +kernel
theorem dX3_goesWithoutFill_10 : decode cX3_goesWithoutFill 10 = .ok (.iconst 0, 1) := by decide +kernel
theorem dX3_goesWithoutFill_11 : decode cX3_goesWithoutFill 11 = .ok (.istore_n 3, 1) := by decide +kernel
theorem dX3_goesWithoutFill_12 : decode cX3_goesWithoutFill 12 = .ok (.iload_n 3, 1) := by decide +kernel
theorem dX3_goesWithoutFill_13 : decode cX3_goesWithoutFill 13 = .ok (.aload_n 0, 1) := by decide +kernel
theorem dX3_goesWithoutFill_14 : decode cX3_goesWithoutFill 14 = .ok (.getfield 16, 3) := by decide +kernel
theorem dX3_goesWithoutFill_17 : decode cX3_goesWithoutFill 17 = .ok (.if_icmp .ge 40, 3) := by decide +kernel
theorem dX3_goesWithoutFill_57 : decode cX3_goesWithoutFill 57 = .ok (.iconst 1, 1) := by decide +kernel
theorem dX3_goesWithoutFill_58 : decode cX3_goesWithoutFill 58 = .ok (.ireturn, 1) := by decide +kernel
theorem dX4_init_0 : decode cX4_init 0 = .ok (.aload_n 0, 1) := by decide +kernel
theorem dX4_init_1 : decode cX4_init 1 = .ok (.invokespecial 3, 3) := by decide +kernel
theorem dX4_init_4 : decode cX4_init 4 = .ok (.aload_n 0, 1) := by decide +kernel
theorem dX4_init_5 : decode cX4_init 5 = .ok (.bipush 12, 2) := by decide +kernel
theorem dX4_init_7 : decode cX4_init 7 = .ok (.newarray .int, 2) := by decide +kernel
theorem dX4_init_9 : decode cX4_init 9 = .ok (.putfield 9, 3) := by decide +kernel
theorem dX4_init_12 : decode cX4_init 12 = .ok (.aload_n 0, 1) := by decide +kernel
theorem dX4_init_13 : decode cX4_init 13 = .ok (.iconst 0, 1) := by decide +kernel
theorem dX4_init_14 : decode cX4_init 14 = .ok (.putfield 15, 3) := by decide +kernel
theorem dX4_init_17 : decode cX4_init 17 = .ok (.aload_n 0, 1) := by decide +kernel
theorem dX4_init_18 : decode cX4_init 18 = .ok (.iconst 0, 1) := by decide +kernel
theorem dX4_init_19 : decode cX4_init 19 = .ok (.putfield 19, 3) := by decide +kernel
theorem dX4_init_22 : decode cX4_init 22 = .ok (.return_, 1) := by decide +kernel
theorem dX4_has_0 : decode cX4_has 0 = .ok (.iload_n 1, 1) := by decide +kernel
theorem dX4_has_1 : decode cX4_has 1 = .ok (.ifCond .lt 15, 3) := by decide +kernel
theorem dX4_has_4 : decode cX4_has 4 = .ok (.iload_n 1, 1) := by decide +kernel
theorem dX4_has_5 : decode cX4_has 5 = .ok (.aload_n 0, 1) := by decide +kernel
theorem dX4_has_6 : decode cX4_has 6 = .ok (.getfield 15, 3) := by decide +kernel
theorem dX4_has_9 : decode cX4_has 9 = .ok (.if_icmp .ge 7, 3) := by decide +kernel
theorem dX4_has_16 : decode cX4_has 16 = .ok (.iconst 0, 1) := by decide +kernel
theorem dX4_has_17 : decode cX4_has 17 = .ok (.ireturn, 1) := by decide +kernel
theorem dX4_all_0 : decode cX4_all 0 = .ok (.iconst 1, 1) := by decide +kernel
theorem dX4_all_1 : decode cX4_all 1 = .ok (.aload_n 0, 1) := by decide +kernel
theorem dX4_all_2 : decode cX4_all 2 = .ok (.getfield 15, 3) := by decide +kernel
theorem dX4_all_5 : decode cX4_all 5 = .ok (.ishl, 1) := by decide +kernel
theorem dX4_all_6 : decode cX4_all 6 = .ok (.iconst 1, 1) := by decide +kernel
theorem dX4_all_7 : decode cX4_all 7 = .ok (.isub, 1) := by decide +kernel
theorem dX4_all_8 : decode cX4_all 8 = .ok (.ireturn, 1) := by decide +kernel
set_option maxRecDepth 20000 in
theorem ggX4_restart_J7_fill_53178 : GoodIn wsX4_restart wsJ7_fill_53178 := goodIn_r _ [7] (by decide +kernel) (by decide +kernel)
set_option maxRecDepth 20000 in
theorem gX4_restart_J7_fill_53178 : GoodIn wsX4_restart (va_wsS RX4 26 yJ7_fill_53178 wsJ7_fill_53178) := goodIn_app (goodIn_of _ (by decide +kernel)) ggX4_restart_J7_fill_53178
theorem dX4_restart_0 : decode cX4_restart 0 = .ok (.aload_n 0, 1) := by decide +kernel
theorem dX4_restart_1 : decode cX4_restart 1 = .ok (.iload_n 1, 1) := by decide +kernel
theorem dX4_restart_2 : decode cX4_restart 2 = .ok (.putfield 15, 3) := by decide +kernel
theorem dX4_restart_5 : decode cX4_restart 5 = .ok (.aload_n 0, 1) := by decide +kernel
theorem dX4_restart_6 : decode cX4_restart 6 = .ok (.getfield 9, 3) := by decide +kernel
theorem dX4_restart_9 : decode cX4_restart 9 = .ok (.iconst 0, 1) := by decide +kernel
theorem dX4_restart_10 : decode cX4_restart 10 = .ok (.invokestatic 26, 3) := by decide +kernel
theorem dX4_restart_13 : decode cX4_restart 13 = .ok (.aload_n 0, 1) := by decide +kernel
theorem dX4_restart_14 : decode cX4_restart 14 = .ok (.dup, 1) := by decide +kernel
theorem dX4_restart_15 : decode cX4_restart 15 = .ok (.getfield 19, 3) := by decide +kernel
theorem dX4_restart_18 : decode cX4_restart 18 = .ok (.iconst 1, 1) := by decide +kernel
theorem dX4_restart_19 : decode cX4_restart 19 = .ok (.iadd, 1) := by decide +kernel
theorem dX4_restart_20 : decode cX4_restart 20 = .ok (.putfield 19, 3) := by decide +kernel
theorem dX4_restart_23 : decode cX4_restart 23 = .ok (.return_, 1) := by decide +kernel
theorem dX4_invert_0 : decode cX4_invert 0 = .ok (.iconst 0, 1) := by decide +kernel
theorem dX4_invert_1 : decode cX4_invert 1 = .ok (.istore_n 1, 1) := by decide +kernel
theorem dX4_invert_2 : decode cX4_invert 2 = .ok (.iload_n 1, 1) := by decide +kernel
theorem dX4_invert_3 : decode cX4_invert 3 = .ok (.aload_n 0, 1) := by decide +kernel
theorem dX4_invert_4 : decode cX4_invert 4 = .ok (.getfield 15, 3) := by decide +kernel
theorem dX4_invert_7 : decode cX4_invert 7 = .ok (.if_icmp .ge 34, 3) := by decide +kernel
theorem dX4_invert_41 : decode cX4_invert 41 = .ok (.aload_n 0, 1) := by decide +kernel
theorem dX4_invert_42 : decode cX4_invert 42 = .ok (.dup, 1) := by decide +kernel
theorem dX4_invert_43 : decode cX4_invert 43 = .ok (.getfield 19, 3) := by decide +kernel
theorem dX4_invert_46 : decode cX4_invert 46 = .ok (.iconst 1, 1) := by decide +kernel
theorem dX4_invert_47 : decode cX4_invert 47 = .ok (.iadd, 1) := by decide +kernel
theorem dX4_invert_48 : decode cX4_invert 48 = .ok (.putfield 19, 3) := by decide +kernel
theorem dX4_invert_51 : decode cX4_invert 51 = .ok (.return_, 1) := by decide +kernel
theorem dX4_pairs_0 : decode cX4_pairs 0 = .ok (.iconst 0, 1) := by decide +kernel
theorem dX4_pairs_1 : decode cX4_pairs 1 = .ok (.istore_n 1, 1) := by decide +kernel
theorem dX4_pairs_2 : decode cX4_pairs 2 = .ok (.iconst 0, 1) := by decide +kernel
theorem dX4_pairs_3 : decode cX4_pairs 3 = .ok (.istore_n 2, 1) := by decide +kernel
theorem dX4_pairs_4 : decode cX4_pairs 4 = .ok (.iload_n 2, 1) := by decide +kernel
theorem dX4_pairs_5 : decode cX4_pairs 5 = .ok (.aload_n 0, 1) := by decide +kernel
theorem dX4_pairs_6 : decode cX4_pairs 6 = .ok (.getfield 15, 3) := by decide +kernel
theorem dX4_pairs_9 : decode cX4_pairs 9 = .ok (.if_icmp .ge 21, 3) := by decide +kernel
theorem dX4_pairs_30 : decode cX4_pairs 30 = .ok (.iload_n 1, 1) := by decide +kernel
theorem dX4_pairs_31 : decode cX4_pairs 31 = .ok (.iconst 2, 1) := by decide +kernel
theorem dX4_pairs_32 : decode cX4_pairs 32 = .ok (.idiv, 1) := by decide +kernel
theorem dX4_pairs_33 : decode cX4_pairs 33 = .ok (.ireturn, 1) := by decide +kernel
set_option maxRecDepth 20000 in
theorem ggX5_init_X3_init : GoodIn wsX5_init wsX3_init := goodIn_r _ [16, 17, 2, 3, 18, 8, 19, 20, 21, 22] (by decide +kernel) (by decide +kernel)
set_option maxRecDepth 20000 in
theorem gX5_init_X3_init_n11 : GoodIn wsX5_init (wsX3_init) := ggX5_init_X3_init
theorem dX5_init_0 : decode cX5_init 0 = .ok (.aload_n 0, 1) := by decide +kernel
theorem dX5_init_1 : decode cX5_init 1 = .ok (.invokespecial 3, 3) := by decide +kernel
theorem dX5_init_4 : decode cX5_init 4 = .ok (.aload_n 0, 1) := by decide +kernel
theorem dX5_init_5 : decode cX5_init 5 = .ok (.new 9, 3) := by decide +kernel
theorem dX5_init_8 : decode cX5_init 8 = .ok (.dup, 1) := by decide +kernel
theorem dX5_init_9 : decode cX5_init 9 = .ok (.invokespecial 11, 3) := by decide +kernel
theorem dX5_init_12 : decode cX5_init 12 = .ok (.putfield 12, 3) := by decide +kernel
theorem dX5_init_15 : decode cX5_init 15 = .ok (.aload_n 0, 1) := by decide +kernel
theorem dX5_init_16 : decode cX5_init 16 = .ok (.sipush 4096, 3) := by decide +kernel
theorem dX5_init_19 : decode cX5_init 19 = .ok (.newarray .int, 2) := by decide +kernel
theorem dX5_init_21 : decode cX5_init 21 = .ok (.putfield 18, 3) := by decide +kernel
theorem dX5_init_24 : decode cX5_init 24 = .ok (.aload_n 0, 1) := by decide +kernel
theorem dX5_init_25 : decode cX5_init 25 = .ok (.bipush 12, 2) := by decide +kernel
theorem dX5_init_27 : decode cX5_init 27 = .ok (.bipush 12, 2) := by decide +kernel
theorem dX5_init_29 : decode cX5_init 29 = .ok (.multianewarray 22 2, 4) := by decide +kernel
theorem dX5_init_33 : decode cX5_init 33 = .ok (.putfield 24, 3) := by decide +kernel
theorem dX5_init_36 : decode cX5_init 36 = .ok (.aload_n 0, 1) := by decide +kernel
theorem dX5_init_37 : decode cX5_init 37 = .ok (.iconst 0, 1) := by decide +kernel
theorem dX5_init_38 : decode cX5_init 38 = .ok (.putfield 27, 3) := by decide +kernel
theorem dX5_init_41 : decode cX5_init 41 = .ok (.aload_n 0, 1) := by decide +kernel
theorem dX5_init_42 : decode cX5_init 42 = .ok (.iconst 0, 1) := by decide +kernel
theorem dX5_init_43 : decode cX5_init 43 = .ok (.putfield 31, 3) := by decide +kernel
theorem dX5_init_46 : decode cX5_init 46 = .ok (.aload_n 0, 1) := by decide +kernel
theorem dX5_init_47 : decode cX5_init 47 = .ok (.iconst 0, 1) := by decide +kernel
theorem dX5_init_48 : decode cX5_init 48 = .ok (.putfield 34, 3) := by decide +kernel
theorem dX5_init_51 : decode cX5_init 51 = .ok (.return_, 1) := by decide +kernel
set_option maxRecDepth 20000 in
theorem ggX5_begin_X3_start : GoodIn wsX5_begin wsX3_start := goodIn_r _ [9, 10, 11, 12, 13, 14, 15, 102, 103, 104, 105, 106] (by decide +kernel) (by decide +kernel)
set_option maxRecDepth 20000 in
theorem gX5_begin_X3_start_n37 : GoodIn wsX5_begin (wsX3_start) := ggX5_begin_X3_start
set_option maxRecDepth 20000 in
theorem ggX5_begin_X4_all : GoodIn wsX5_begin wsX4_all := goodIn_r _ [19, 20, 102, 103, 104] (by decide +kernel) (by decide +kernel)
set_option maxRecDepth 20000 in
theorem gX5_begin_X4_all_n41 : GoodIn wsX5_begin (wsX4_all) := ggX5_begin_X4_all
set_option maxRecDepth 20000 in
theorem ggX5_begin_J7_fill_fda19 : GoodIn wsX5_begin wsJ7_fill_fda19 := goodIn_r _ [24, 25, 26, 23, 27] (by decide +kernel) (by decide +kernel)
set_option maxRecDepth 20000 in
theorem gX5_begin_J7_fill_fda19 : GoodIn wsX5_begin (va_wsS RX5 47 yJ7_fill_fda19 wsJ7_fill_fda19) := goodIn_app (goodIn_of _ (by decide +kernel)) ggX5_begin_J7_fill_fda19
set_option maxRecDepth 20000 in
theorem ggX5_begin_X5_leastFrom : GoodIn wsX5_begin wsX5_leastFrom := goodIn_r _ [31, 4, 5, 3, 32, 1, 33, 34, 35, 36, 37, 38, 39, 30, 40, 2, 41, 42, 43, 44, 7, 45, 46, 47, 48, 49, 50, 11, 10, 51, 52, 53, 54, 55, 56, 57, 58, 59, 60, 61, 62, 63, 64, 65, 66, 67, 68, 69, 70, 71, 72, 73, 74, 75, 76, 77, 78, 79, 80, 81, 82, 83, 84, 85, 86, 87, 88, 12, 13, 14, 15, 28, 29, 89, 90, 91, 92, 93, 94, 95, 96, 97, 98, 99, 100, 101, 105, 106] (by decide +kernel) (by decide +kernel)
set_option maxRecDepth 20000 in
theorem gX5_begin_X5_leastFrom : GoodIn wsX5_begin (va_wsS RX5 53 yX5_leastFrom wsX5_leastFrom) := goodIn_app (goodIn_of _ (by decide +kernel)) ggX5_begin_X5_leastFrom
theorem dX5_begin_0 : decode cX5_begin 0 = .ok (.aload_n 0, 1) := by decide +kernel
theorem dX5_begin_1 : decode cX5_begin 1 = .ok (.getfield 12, 3) := by decide +kernel
theorem dX5_begin_4 : decode cX5_begin 4 = .ok (.aload_n 1, 1) := by decide +kernel
theorem dX5_begin_5 : decode cX5_begin 5 = .ok (.invokevirtual 37, 3) := by decide +kernel
theorem dX5_begin_8 : decode cX5_begin 8 = .ok (.aload_n 0, 1) := by decide +kernel
theorem dX5_begin_9 : decode cX5_begin 9 = .ok (.iload_n 2, 1) := by decide +kernel
theorem dX5_begin_10 : decode cX5_begin 10 = .ok (.ifCond .ne 7, 3) := by decide +kernel
theorem dX5_begin_13 : decode cX5_begin 13 = .ok (.iconst 2, 1) := by decide +kernel
theorem dX5_begin_14 : decode cX5_begin 14 = .ok (.goto 4, 3) := by decide +kernel
theorem dX5_begin_17 : decode cX5_begin 17 = .ok (.iconst 1, 1) := by decide +kernel
theorem dX5_begin_18 : decode cX5_begin 18 = .ok (.putfield 27, 3) := by decide +kernel
theorem dX5_begin_21 : decode cX5_begin 21 = .ok (.aload_n 0, 1) := by decide +kernel
theorem dX5_begin_22 : decode cX5_begin 22 = .ok (.aload_n 1, 1) := by decide +kernel
theorem dX5_begin_23 : decode cX5_begin 23 = .ok (.invokevirtual 41, 3) := by decide +kernel
theorem dX5_begin_26 : decode cX5_begin 26 = .ok (.putfield 31, 3) := by decide +kernel
theorem dX5_begin_29 : decode cX5_begin 29 = .ok (.aload_n 0, 1) := by decide +kernel
theorem dX5_begin_30 : decode cX5_begin 30 = .ok (.aload_n 1, 1) := by decide +kernel
theorem dX5_begin_31 : decode cX5_begin 31 = .ok (.getfield 46, 3) := by decide +kernel
theorem dX5_begin_34 : decode cX5_begin 34 = .ok (.putfield 34, 3) := by decide +kernel
theorem dX5_begin_37 : decode cX5_begin 37 = .ok (.aload_n 0, 1) := by decide +kernel
theorem dX5_begin_38 : decode cX5_begin 38 = .ok (.getfield 18, 3) := by decide +kernel
theorem dX5_begin_41 : decode cX5_begin 41 = .ok (.iconst 0, 1) := by decide +kernel
theorem dX5_begin_42 : decode cX5_begin 42 = .ok (.aload_n 0, 1) := by decide +kernel
theorem dX5_begin_43 : decode cX5_begin 43 = .ok (.getfield 31, 3) := by decide +kernel
theorem dX5_begin_46 : decode cX5_begin 46 = .ok (.iconst 1, 1) := by decide +kernel
theorem dX5_begin_47 : decode cX5_begin 47 = .ok (.iadd, 1) := by decide +kernel
theorem dX5_begin_48 : decode cX5_begin 48 = .ok (.iconst (-1), 1) := by decide +kernel
theorem dX5_begin_49 : decode cX5_begin 49 = .ok (.invokestatic 47, 3) := by decide +kernel
theorem dX5_begin_52 : decode cX5_begin 52 = .ok (.aload_n 0, 1) := by decide +kernel
theorem dX5_begin_53 : decode cX5_begin 53 = .ok (.getfield 18, 3) := by decide +kernel
theorem dX5_begin_56 : decode cX5_begin 56 = .ok (.aload_n 0, 1) := by decide +kernel
theorem dX5_begin_57 : decode cX5_begin 57 = .ok (.getfield 31, 3) := by decide +kernel
theorem dX5_begin_60 : decode cX5_begin 60 = .ok (.iconst 0, 1) := by decide +kernel
theorem dX5_begin_61 : decode cX5_begin 61 = .ok (.iastore, 1) := by decide +kernel
theorem dX5_begin_62 : decode cX5_begin 62 = .ok (.aload_n 0, 1) := by decide +kernel
theorem dX5_begin_63 : decode cX5_begin 63 = .ok (.iconst 0, 1) := by decide +kernel
theorem dX5_begin_64 : decode cX5_begin 64 = .ok (.iconst 0, 1) := by decide +kernel
theorem dX5_begin_65 : decode cX5_begin 65 = .ok (.invokestatic 53, 3) := by decide +kernel
theorem dX5_begin_68 : decode cX5_begin 68 = .ok (.ireturn, 1) := by decide +kernel
theorem dX5_leastFrom_0 : decode cX5_leastFrom 0 = .ok (.iload_n 2, 1) := by decide +kernel
theorem dX5_leastFrom_1 : decode cX5_leastFrom 1 = .ok (.aload_n 0, 1) := by decide +kernel
theorem dX5_leastFrom_2 : decode cX5_leastFrom 2 = .ok (.getfield 34, 3) := by decide +kernel
theorem dX5_leastFrom_5 : decode cX5_leastFrom 5 = .ok (.if_icmp .ge 13, 3) := by decide +kernel
theorem dX5_leastFrom_18 : decode cX5_leastFrom 18 = .ok (.aload_n 0, 1) := by decide +kernel
theorem dX5_leastFrom_19 : decode cX5_leastFrom 19 = .ok (.getfield 18, 3) := by decide +kernel
theorem dX5_leastFrom_22 : decode cX5_leastFrom 22 = .ok (.iload_n 1, 1) := by decide +kernel
theorem dX5_leastFrom_23 : decode cX5_leastFrom 23 = .ok (.iaload, 1) := by decide +kernel
theorem dX5_leastFrom_24 : decode cX5_leastFrom 24 = .ok (.ireturn, 1) := by decide +kernel
set_option maxRecDepth 20000 in
theorem ggX6_init_X3_init : GoodIn wsX6_init wsX3_init := goodIn_r _ [21, 22, 2, 3, 23, 12, 24, 25, 37, 38] (by decide +kernel) (by decide +kernel)
set_option maxRecDepth 20000 in
theorem gX6_init_X3_init_n11 : GoodIn wsX6_init (wsX3_init) := ggX6_init_X3_init
set_option maxRecDepth 20000 in
theorem ggX6_init_X5_init : GoodIn wsX6_init wsX5_init := goodIn_r _ [27, 28, 2, 3, 29, 5, 6, 30, 12, 31, 32, 33, 34, 35, 36, 20, 21, 22, 23, 24, 25, 37, 38, 48, 49, 50, 51, 52, 53] (by decide +kernel) (by decide +kernel)
set_option maxRecDepth 20000 in
theorem gX6_init_X5_init_n20 : GoodIn wsX6_init (wsX5_init) := ggX6_init_X5_init
theorem dX6_init_0 : decode cX6_init 0 = .ok (.aload_n 0, 1) := by decide +kernel
theorem dX6_init_1 : decode cX6_init 1 = .ok (.invokespecial 3, 3) := by decide +kernel
theorem dX6_init_4 : decode cX6_init 4 = .ok (.aload_n 0, 1) := by decide +kernel
theorem dX6_init_5 : decode cX6_init 5 = .ok (.new 9, 3) := by decide +kernel
theorem dX6_init_8 : decode cX6_init 8 = .ok (.dup, 1) := by decide +kernel
theorem dX6_init_9 : decode cX6_init 9 = .ok (.invokespecial 11, 3) := by decide +kernel
theorem dX6_init_12 : decode cX6_init 12 = .ok (.putfield 12, 3) := by decide +kernel
theorem dX6_init_15 : decode cX6_init 15 = .ok (.aload_n 0, 1) := by decide +kernel
theorem dX6_init_16 : decode cX6_init 16 = .ok (.new 18, 3) := by decide +kernel
theorem dX6_init_19 : decode cX6_init 19 = .ok (.dup, 1) := by decide +kernel
theorem dX6_init_20 : decode cX6_init 20 = .ok (.invokespecial 20, 3) := by decide +kernel
theorem dX6_init_23 : decode cX6_init 23 = .ok (.putfield 21, 3) := by decide +kernel
theorem dX6_init_26 : decode cX6_init 26 = .ok (.aload_n 0, 1) := by decide +kernel
theorem dX6_init_27 : decode cX6_init 27 = .ok (.bipush 12, 2) := by decide +kernel
theorem dX6_init_29 : decode cX6_init 29 = .ok (.newarray .int, 2) := by decide +kernel
theorem dX6_init_31 : decode cX6_init 31 = .ok (.putfield 25, 3) := by decide +kernel
theorem dX6_init_34 : decode cX6_init 34 = .ok (.aload_n 0, 1) := by decide +kernel
theorem dX6_init_35 : decode cX6_init 35 = .ok (.bipush 12, 2) := by decide +kernel
theorem dX6_init_37 : decode cX6_init 37 = .ok (.newarray .int, 2) := by decide +kernel
theorem dX6_init_39 : decode cX6_init 39 = .ok (.putfield 29, 3) := by decide +kernel
theorem dX6_init_42 : decode cX6_init 42 = .ok (.aload_n 0, 1) := by decide +kernel
theorem dX6_init_43 : decode cX6_init 43 = .ok (.iconst 0, 1) := by decide +kernel
theorem dX6_init_44 : decode cX6_init 44 = .ok (.putfield 32, 3) := by decide +kernel
theorem dX6_init_47 : decode cX6_init 47 = .ok (.aload_n 0, 1) := by decide +kernel
theorem dX6_init_48 : decode cX6_init 48 = .ok (.iconst 0, 1) := by decide +kernel
theorem dX6_init_49 : decode cX6_init 49 = .ok (.putfield 36, 3) := by decide +kernel
theorem dX6_init_52 : decode cX6_init 52 = .ok (.aload_n 0, 1) := by decide +kernel
theorem dX6_init_53 : decode cX6_init 53 = .ok (.iconst 0, 1) := by decide +kernel
theorem dX6_init_54 : decode cX6_init 54 = .ok (.putfield 39, 3) := by decide +kernel
theorem dX6_init_57 : decode cX6_init 57 = .ok (.aload_n 0, 1) := by decide +kernel
theorem dX6_init_58 : decode cX6_init 58 = .ok (.iconst 0, 1) := by decide +kernel
theorem dX6_init_59 : decode cX6_init 59 = .ok (.putfield 43, 3) := by decide +kernel
theorem dX6_init_62 : decode cX6_init 62 = .ok (.aload_n 0, 1) := by decide +kernel
theorem dX6_init_63 : decode cX6_init 63 = .ok (.iconst 0, 1) := by decide +kernel
theorem dX6_init_64 : decode cX6_init 64 = .ok (.putfield 46, 3) := by decide +kernel
theorem dX6_init_67 : decode cX6_init 67 = .ok (.return_, 1) := by decide +kernel
theorem dX6_length_0 : decode cX6_length 0 = .ok (.aload_n 0, 1) := by decide +kernel
theorem dX6_length_1 : decode cX6_length 1 = .ok (.getfield 39, 3) := by decide +kernel
theorem dX6_length_4 : decode cX6_length 4 = .ok (.ifCond .eq 10, 3) := by decide +kernel
theorem dX6_length_14 : decode cX6_length 14 = .ok (.iconst 0, 1) := by decide +kernel
theorem dX6_length_15 : decode cX6_length 15 = .ok (.ireturn, 1) := by decide +kernel
theorem dX6_drop_0 : decode cX6_drop 0 = .ok (.aload_n 0, 1) := by decide +kernel
theorem dX6_drop_1 : decode cX6_drop 1 = .ok (.iconst 0, 1) := by decide +kernel
theorem dX6_drop_2 : decode cX6_drop 2 = .ok (.putfield 39, 3) := by decide +kernel
theorem dX6_drop_5 : decode cX6_drop 5 = .ok (.return_, 1) := by decide +kernel
theorem dX6_draftSet_0 : decode cX6_draftSet 0 = .ok (.iconst 0, 1) := by decide +kernel
theorem dX6_draftSet_1 : decode cX6_draftSet 1 = .ok (.istore_n 1, 1) := by decide +kernel
theorem dX6_draftSet_2 : decode cX6_draftSet 2 = .ok (.iconst 0, 1) := by decide +kernel
theorem dX6_draftSet_3 : decode cX6_draftSet 3 = .ok (.istore_n 2, 1) := by decide +kernel
theorem dX6_draftSet_4 : decode cX6_draftSet 4 = .ok (.iload_n 2, 1) := by decide +kernel
theorem dX6_draftSet_5 : decode cX6_draftSet 5 = .ok (.aload_n 0, 1) := by decide +kernel
theorem dX6_draftSet_6 : decode cX6_draftSet 6 = .ok (.getfield 32, 3) := by decide +kernel
theorem dX6_draftSet_9 : decode cX6_draftSet 9 = .ok (.if_icmp .ge 20, 3) := by decide +kernel
theorem dX6_draftSet_29 : decode cX6_draftSet 29 = .ok (.iload_n 1, 1) := by decide +kernel
theorem dX6_draftSet_30 : decode cX6_draftSet 30 = .ok (.ireturn, 1) := by decide +kernel
theorem dX6_keepDrafted_0 : decode cX6_keepDrafted 0 = .ok (.iconst 0, 1) := by decide +kernel
theorem dX6_keepDrafted_1 : decode cX6_keepDrafted 1 = .ok (.istore_n 2, 1) := by decide +kernel
theorem dX6_keepDrafted_2 : decode cX6_keepDrafted 2 = .ok (.iconst 0, 1) := by decide +kernel
theorem dX6_keepDrafted_3 : decode cX6_keepDrafted 3 = .ok (.istore_n 3, 1) := by decide +kernel
theorem dX6_keepDrafted_4 : decode cX6_keepDrafted 4 = .ok (.iload_n 3, 1) := by decide +kernel
theorem dX6_keepDrafted_5 : decode cX6_keepDrafted 5 = .ok (.aload_n 0, 1) := by decide +kernel
theorem dX6_keepDrafted_6 : decode cX6_keepDrafted 6 = .ok (.getfield 32, 3) := by decide +kernel
theorem dX6_keepDrafted_9 : decode cX6_keepDrafted 9 = .ok (.if_icmp .ge 37, 3) := by decide +kernel
theorem dX6_keepDrafted_46 : decode cX6_keepDrafted 46 = .ok (.aload_n 0, 1) := by decide +kernel
theorem dX6_keepDrafted_47 : decode cX6_keepDrafted 47 = .ok (.iload_n 2, 1) := by decide +kernel
theorem dX6_keepDrafted_48 : decode cX6_keepDrafted 48 = .ok (.putfield 32, 3) := by decide +kernel
theorem dX6_keepDrafted_51 : decode cX6_keepDrafted 51 = .ok (.return_, 1) := by decide +kernel
set_option maxRecDepth 20000 in
theorem ggX6_begin_X3_start : GoodIn wsX6_begin wsX3_start := goodIn_r _ [9, 10, 11, 12, 13, 14, 15, 25, 26, 27, 28, 29] (by decide +kernel) (by decide +kernel)
set_option maxRecDepth 20000 in
theorem gX6_begin_X3_start_n57 : GoodIn wsX6_begin (wsX3_start) := ggX6_begin_X3_start
theorem dX6_begin_0 : decode cX6_begin 0 = .ok (.aload_n 0, 1) := by decide +kernel
theorem dX6_begin_1 : decode cX6_begin 1 = .ok (.getfield 12, 3) := by decide +kernel
theorem dX6_begin_4 : decode cX6_begin 4 = .ok (.aload_n 1, 1) := by decide +kernel
theorem dX6_begin_5 : decode cX6_begin 5 = .ok (.invokevirtual 57, 3) := by decide +kernel
theorem dX6_begin_8 : decode cX6_begin 8 = .ok (.aload_n 0, 1) := by decide +kernel
theorem dX6_begin_9 : decode cX6_begin 9 = .ok (.iconst 1, 1) := by decide +kernel
theorem dX6_begin_10 : decode cX6_begin 10 = .ok (.putfield 39, 3) := by decide +kernel
theorem dX6_begin_13 : decode cX6_begin 13 = .ok (.aload_n 0, 1) := by decide +kernel
theorem dX6_begin_14 : decode cX6_begin 14 = .ok (.aload_n 1, 1) := by decide +kernel
theorem dX6_begin_15 : decode cX6_begin 15 = .ok (.getfield 61, 3) := by decide +kernel
theorem dX6_begin_18 : decode cX6_begin 18 = .ok (.putfield 36, 3) := by decide +kernel
theorem dX6_begin_21 : decode cX6_begin 21 = .ok (.aload_n 0, 1) := by decide +kernel
theorem dX6_begin_22 : decode cX6_begin 22 = .ok (.iconst 0, 1) := by decide +kernel
theorem dX6_begin_23 : decode cX6_begin 23 = .ok (.putfield 43, 3) := by decide +kernel
theorem dX6_begin_26 : decode cX6_begin 26 = .ok (.aload_n 0, 1) := by decide +kernel
theorem dX6_begin_27 : decode cX6_begin 27 = .ok (.iconst 0, 1) := by decide +kernel
theorem dX6_begin_28 : decode cX6_begin 28 = .ok (.putfield 46, 3) := by decide +kernel
theorem dX6_begin_31 : decode cX6_begin 31 = .ok (.return_, 1) := by decide +kernel
set_option maxRecDepth 20000 in
theorem ggX6_followDraft_X6_begin : GoodIn wsX6_followDraft wsX6_begin := goodIn_r _ [7, 8, 9, 1, 10, 11, 12, 13, 14, 15, 16, 17, 18, 19, 20, 21, 54, 55, 56, 57, 58, 59, 60, 61, 62, 63, 64, 65, 66, 67] (by decide +kernel) (by decide +kernel)
set_option maxRecDepth 20000 in
theorem gX6_followDraft_X6_begin : GoodIn wsX6_followDraft (wsV RX6 79 RX6 yX6_begin wsX6_begin) := goodIn_app (goodIn_of _ (by decide +kernel)) ggX6_followDraft_X6_begin
theorem dX6_followDraft_0 : decode cX6_followDraft 0 = .ok (.aload_n 0, 1) := by decide +kernel
theorem dX6_followDraft_1 : decode cX6_followDraft 1 = .ok (.aload_n 1, 1) := by decide +kernel
theorem dX6_followDraft_2 : decode cX6_followDraft 2 = .ok (.invokevirtual 79, 3) := by decide +kernel
theorem dX6_followDraft_5 : decode cX6_followDraft 5 = .ok (.iconst 0, 1) := by decide +kernel
theorem dX6_followDraft_6 : decode cX6_followDraft 6 = .ok (.istore_n 2, 1) := by decide +kernel
theorem dX6_followDraft_7 : decode cX6_followDraft 7 = .ok (.iload_n 2, 1) := by decide +kernel
theorem dX6_followDraft_8 : decode cX6_followDraft 8 = .ok (.aload_n 0, 1) := by decide +kernel
theorem dX6_followDraft_9 : decode cX6_followDraft 9 = .ok (.getfield 36, 3) := by decide +kernel
theorem dX6_followDraft_12 : decode cX6_followDraft 12 = .ok (.if_icmp .ge 20, 3) := by decide +kernel
theorem dX6_followDraft_32 : decode cX6_followDraft 32 = .ok (.return_, 1) := by decide +kernel
set_option maxRecDepth 20000 in
theorem ggX6_followRule_X6_begin : GoodIn wsX6_followRule wsX6_begin := goodIn_r _ [7, 2, 8, 1, 9, 10, 11, 12, 13, 14, 15, 16, 17, 18, 19, 20, 73, 74, 75, 76, 77, 78, 79, 80, 81, 82, 83, 84, 85, 86] (by decide +kernel) (by decide +kernel)
set_option maxRecDepth 20000 in
theorem gX6_followRule_X6_begin : GoodIn wsX6_followRule (wsV RX6 79 RX6 yX6_begin wsX6_begin) := goodIn_app (goodIn_of _ (by decide +kernel)) ggX6_followRule_X6_begin
set_option maxRecDepth 20000 in
theorem ggX6_followRule_X4_all : GoodIn wsX6_followRule wsX4_all := goodIn_r _ [24, 25, 82, 83, 84] (by decide +kernel) (by decide +kernel)
set_option maxRecDepth 20000 in
theorem gX6_followRule_X4_all_n85 : GoodIn wsX6_followRule (wsX4_all) := ggX6_followRule_X4_all
theorem dX6_followRule_0 : decode cX6_followRule 0 = .ok (.aload_n 0, 1) := by decide +kernel
theorem dX6_followRule_1 : decode cX6_followRule 1 = .ok (.aload_n 1, 1) := by decide +kernel
theorem dX6_followRule_2 : decode cX6_followRule 2 = .ok (.invokevirtual 79, 3) := by decide +kernel
theorem dX6_followRule_5 : decode cX6_followRule 5 = .ok (.aload_n 1, 1) := by decide +kernel
theorem dX6_followRule_6 : decode cX6_followRule 6 = .ok (.invokevirtual 85, 3) := by decide +kernel
theorem dX6_followRule_9 : decode cX6_followRule 9 = .ok (.istore_n 3, 1) := by decide +kernel
theorem dX6_followRule_10 : decode cX6_followRule 10 = .ok (.iconst 0, 1) := by decide +kernel
theorem dX6_followRule_11 : decode cX6_followRule 11 = .ok (.istore 4, 2) := by decide +kernel
theorem dX6_followRule_13 : decode cX6_followRule 13 = .ok (.iload 4, 2) := by decide +kernel
theorem dX6_followRule_15 : decode cX6_followRule 15 = .ok (.aload_n 0, 1) := by decide +kernel
theorem dX6_followRule_16 : decode cX6_followRule 16 = .ok (.getfield 36, 3) := by decide +kernel
theorem dX6_followRule_19 : decode cX6_followRule 19 = .ok (.if_icmp .ge 39, 3) := by decide +kernel
theorem dX6_followRule_58 : decode cX6_followRule 58 = .ok (.return_, 1) := by decide +kernel
set_option maxRecDepth 20000 in
theorem ggX6_followLeast_X6_begin : GoodIn wsX6_followLeast wsX6_begin := goodIn_r _ [8, 9, 10, 2, 3, 11, 12, 13, 14, 15, 16, 17, 18, 19, 20, 21, 119, 120, 121, 122, 123, 124, 125, 126, 127, 128, 129, 130, 131, 132] (by decide +kernel) (by decide +kernel)
set_option maxRecDepth 20000 in
theorem gX6_followLeast_X6_begin : GoodIn wsX6_followLeast (wsV RX6 79 RX6 yX6_begin wsX6_begin) := goodIn_app (goodIn_of _ (by decide +kernel)) ggX6_followLeast_X6_begin
set_option maxRecDepth 20000 in
theorem ggX6_followLeast_X5_begin : GoodIn wsX6_followLeast wsX5_begin := goodIn_r _ [25, 26, 27, 28, 29, 30, 12, 13, 14, 15, 16, 17, 18, 19, 20, 21, 31, 32, 33, 34, 35, 36, 37, 38, 39, 40, 41, 42, 43, 44, 23, 45, 46, 47, 48, 49, 50, 51, 52, 53, 54, 55, 56, 57, 58, 59, 60, 61, 62, 63, 64, 65, 66, 67, 68, 69, 70, 71, 72, 73, 74, 75, 76, 77, 78, 79, 80, 81, 82, 83, 84, 85, 86, 87, 88, 89, 90, 91, 92, 93, 94, 95, 96, 97, 98, 99, 100, 101, 102, 103, 104, 105, 106, 107, 108, 109, 133, 134, 135, 136, 137, 138, 128, 129, 130, 131, 132] (by decide +kernel) (by decide +kernel)
set_option maxRecDepth 20000 in
theorem gX6_followLeast_X5_begin_n92 : GoodIn wsX6_followLeast (wsX5_begin) := ggX6_followLeast_X5_begin
theorem dX6_followLeast_0 : decode cX6_followLeast 0 = .ok (.aload_n 0, 1) := by decide +kernel
theorem dX6_followLeast_1 : decode cX6_followLeast 1 = .ok (.aload_n 1, 1) := by decide +kernel
theorem dX6_followLeast_2 : decode cX6_followLeast 2 = .ok (.invokevirtual 79, 3) := by decide +kernel
theorem dX6_followLeast_5 : decode cX6_followLeast 5 = .ok (.aload_n 0, 1) := by decide +kernel
theorem dX6_followLeast_6 : decode cX6_followLeast 6 = .ok (.getfield 21, 3) := by decide +kernel
theorem dX6_followLeast_9 : decode cX6_followLeast 9 = .ok (.aload_n 1, 1) := by decide +kernel
theorem dX6_followLeast_10 : decode cX6_followLeast 10 = .ok (.iload_n 2, 1) := by decide +kernel
theorem dX6_followLeast_11 : decode cX6_followLeast 11 = .ok (.invokevirtual 92, 3) := by decide +kernel
theorem dX6_followLeast_14 : decode cX6_followLeast 14 = .ok (.istore_n 3, 1) := by decide +kernel
theorem dX6_followLeast_15 : decode cX6_followLeast 15 = .ok (.iconst 0, 1) := by decide +kernel
theorem dX6_followLeast_16 : decode cX6_followLeast 16 = .ok (.istore 4, 2) := by decide +kernel
theorem dX6_followLeast_18 : decode cX6_followLeast 18 = .ok (.iconst 0, 1) := by decide +kernel
theorem dX6_followLeast_19 : decode cX6_followLeast 19 = .ok (.istore 5, 2) := by decide +kernel
theorem dX6_followLeast_21 : decode cX6_followLeast 21 = .ok (.iload 5, 2) := by decide +kernel
theorem dX6_followLeast_23 : decode cX6_followLeast 23 = .ok (.aload_n 0, 1) := by decide +kernel
theorem dX6_followLeast_24 : decode cX6_followLeast 24 = .ok (.getfield 36, 3) := by decide +kernel
theorem dX6_followLeast_27 : decode cX6_followLeast 27 = .ok (.if_icmp .ge 57, 3) := by decide +kernel
theorem dX6_followLeast_84 : decode cX6_followLeast 84 = .ok (.return_, 1) := by decide +kernel
theorem dX7_init_0 : decode cX7_init 0 = .ok (.aload_n 0, 1) := by decide +kernel
theorem dX7_init_1 : decode cX7_init 1 = .ok (.invokespecial 3, 3) := by decide +kernel
theorem dX7_init_4 : decode cX7_init 4 = .ok (.aload_n 0, 1) := by decide +kernel
theorem dX7_init_5 : decode cX7_init 5 = .ok (.bipush 12, 2) := by decide +kernel
theorem dX7_init_7 : decode cX7_init 7 = .ok (.newarray .int, 2) := by decide +kernel
theorem dX7_init_9 : decode cX7_init 9 = .ok (.putfield 9, 3) := by decide +kernel
theorem dX7_init_12 : decode cX7_init 12 = .ok (.aload_n 0, 1) := by decide +kernel
theorem dX7_init_13 : decode cX7_init 13 = .ok (.bipush 12, 2) := by decide +kernel
theorem dX7_init_15 : decode cX7_init 15 = .ok (.newarray .int, 2) := by decide +kernel
theorem dX7_init_17 : decode cX7_init 17 = .ok (.putfield 15, 3) := by decide +kernel
theorem dX7_init_20 : decode cX7_init 20 = .ok (.aload_n 0, 1) := by decide +kernel
theorem dX7_init_21 : decode cX7_init 21 = .ok (.iconst 0, 1) := by decide +kernel
theorem dX7_init_22 : decode cX7_init 22 = .ok (.putfield 18, 3) := by decide +kernel
theorem dX7_init_25 : decode cX7_init 25 = .ok (.aload_n 0, 1) := by decide +kernel
theorem dX7_init_26 : decode cX7_init 26 = .ok (.iconst (-1), 1) := by decide +kernel
theorem dX7_init_27 : decode cX7_init 27 = .ok (.putfield 22, 3) := by decide +kernel
theorem dX7_init_30 : decode cX7_init 30 = .ok (.return_, 1) := by decide +kernel
set_option maxRecDepth 20000 in
theorem ggX7_bring_J7_fill_53178 : GoodIn wsX7_bring wsJ7_fill_53178 := goodIn_r _ [7] (by decide +kernel) (by decide +kernel)
set_option maxRecDepth 20000 in
theorem gX7_bring_J7_fill_53178 : GoodIn wsX7_bring (va_wsS RX7 33 yJ7_fill_53178 wsJ7_fill_53178) := goodIn_app (goodIn_of _ (by decide +kernel)) ggX7_bring_J7_fill_53178
set_option maxRecDepth 20000 in
theorem ggX7_bring_X7_paints : GoodIn wsX7_bring wsX7_paints := goodIn_r _ [11, 3, 2, 12, 13, 14, 15, 16, 8, 9, 10, 21, 22, 23, 17, 18, 19, 20] (by decide +kernel) (by decide +kernel)
set_option maxRecDepth 20000 in
theorem gX7_bring_X7_paints : GoodIn wsX7_bring (va_wsS RX7 39 yX7_paints wsX7_paints) := goodIn_app (goodIn_of _ (by decide +kernel)) ggX7_bring_X7_paints
theorem dX7_bring_0 : decode cX7_bring 0 = .ok (.aload_n 0, 1) := by decide +kernel
theorem dX7_bring_1 : decode cX7_bring 1 = .ok (.getfield 22, 3) := by decide +kernel
theorem dX7_bring_4 : decode cX7_bring 4 = .ok (.aload_n 1, 1) := by decide +kernel
theorem dX7_bring_5 : decode cX7_bring 5 = .ok (.getfield 25, 3) := by decide +kernel
theorem dX7_bring_8 : decode cX7_bring 8 = .ok (.if_icmp .ne 4, 3) := by decide +kernel
theorem dX7_bring_12 : decode cX7_bring 12 = .ok (.aload_n 0, 1) := by decide +kernel
theorem dX7_bring_13 : decode cX7_bring 13 = .ok (.aload_n 1, 1) := by decide +kernel
theorem dX7_bring_14 : decode cX7_bring 14 = .ok (.getfield 25, 3) := by decide +kernel
theorem dX7_bring_17 : decode cX7_bring 17 = .ok (.putfield 22, 3) := by decide +kernel
theorem dX7_bring_20 : decode cX7_bring 20 = .ok (.iload_n 2, 1) := by decide +kernel
theorem dX7_bring_21 : decode cX7_bring 21 = .ok (.istore_n 3, 1) := by decide +kernel
theorem dX7_bring_22 : decode cX7_bring 22 = .ok (.iload_n 3, 1) := by decide +kernel
theorem dX7_bring_23 : decode cX7_bring 23 = .ok (.aload_n 1, 1) := by decide +kernel
theorem dX7_bring_24 : decode cX7_bring 24 = .ok (.getfield 30, 3) := by decide +kernel
theorem dX7_bring_27 : decode cX7_bring 27 = .ok (.if_icmp .gt 33, 3) := by decide +kernel
theorem dX7_bring_30 : decode cX7_bring 30 = .ok (.aload_n 0, 1) := by decide +kernel
theorem dX7_bring_31 : decode cX7_bring 31 = .ok (.getfield 15, 3) := by decide +kernel
theorem dX7_bring_34 : decode cX7_bring 34 = .ok (.iconst 0, 1) := by decide +kernel
theorem dX7_bring_35 : decode cX7_bring 35 = .ok (.invokestatic 33, 3) := by decide +kernel
theorem dX7_bring_38 : decode cX7_bring 38 = .ok (.aload_n 0, 1) := by decide +kernel
theorem dX7_bring_39 : decode cX7_bring 39 = .ok (.iload_n 3, 1) := by decide +kernel
theorem dX7_bring_40 : decode cX7_bring 40 = .ok (.putfield 18, 3) := by decide +kernel
theorem dX7_bring_43 : decode cX7_bring 43 = .ok (.aload_n 0, 1) := by decide +kernel
theorem dX7_bring_44 : decode cX7_bring 44 = .ok (.aload_n 1, 1) := by decide +kernel
theorem dX7_bring_45 : decode cX7_bring 45 = .ok (.iconst 0, 1) := by decide +kernel
theorem dX7_bring_46 : decode cX7_bring 46 = .ok (.iconst 0, 1) := by decide +kernel
theorem dX7_bring_47 : decode cX7_bring 47 = .ok (.invokestatic 39, 3) := by decide +kernel
theorem dX7_bring_50 : decode cX7_bring 50 = .ok (.ifCond .eq 4, 3) := by decide +kernel
theorem dX7_bring_53 : decode cX7_bring 53 = .ok (.return_, 1) := by decide +kernel
theorem dX7_paints_0 : decode cX7_paints 0 = .ok (.iload_n 2, 1) := by decide +kernel
theorem dX7_paints_1 : decode cX7_paints 1 = .ok (.aload_n 1, 1) := by decide +kernel
theorem dX7_paints_2 : decode cX7_paints 2 = .ok (.getfield 30, 3) := by decide +kernel
theorem dX7_paints_5 : decode cX7_paints 5 = .ok (.if_icmp .lt 5, 3) := by decide +kernel
theorem dX7_paints_8 : decode cX7_paints 8 = .ok (.iconst 1, 1) := by decide +kernel
theorem dX7_paints_9 : decode cX7_paints 9 = .ok (.ireturn, 1) := by decide +kernel
theorem dX8_init_0 : decode cX8_init 0 = .ok (.aload_n 0, 1) := by decide +kernel
theorem dX8_init_1 : decode cX8_init 1 = .ok (.invokespecial 3, 3) := by decide +kernel
theorem dX8_init_4 : decode cX8_init 4 = .ok (.aload_n 0, 1) := by decide +kernel
theorem dX8_init_5 : decode cX8_init 5 = .ok (.sipush 252, 3) := by decide +kernel
theorem dX8_init_8 : decode cX8_init 8 = .ok (.newarray .int, 2) := by decide +kernel
theorem dX8_init_10 : decode cX8_init 10 = .ok (.putfield 9, 3) := by decide +kernel
theorem dX8_init_13 : decode cX8_init 13 = .ok (.aload_n 0, 1) := by decide +kernel
theorem dX8_init_14 : decode cX8_init 14 = .ok (.iconst 0, 1) := by decide +kernel
theorem dX8_init_15 : decode cX8_init 15 = .ok (.putfield 15, 3) := by decide +kernel
theorem dX8_init_18 : decode cX8_init 18 = .ok (.aload_n 0, 1) := by decide +kernel
theorem dX8_init_19 : decode cX8_init 19 = .ok (.iconst (-1), 1) := by decide +kernel
theorem dX8_init_20 : decode cX8_init 20 = .ok (.putfield 19, 3) := by decide +kernel
theorem dX8_init_23 : decode cX8_init 23 = .ok (.aload_n 0, 1) := by decide +kernel
theorem dX8_init_24 : decode cX8_init 24 = .ok (.iconst (-1), 1) := by decide +kernel
theorem dX8_init_25 : decode cX8_init 25 = .ok (.putfield 22, 3) := by decide +kernel
theorem dX8_init_28 : decode cX8_init 28 = .ok (.aload_n 0, 1) := by decide +kernel
theorem dX8_init_29 : decode cX8_init 29 = .ok (.iconst (-1), 1) := by decide +kernel
theorem dX8_init_30 : decode cX8_init 30 = .ok (.putfield 25, 3) := by decide +kernel
theorem dX8_init_33 : decode cX8_init 33 = .ok (.return_, 1) := by decide +kernel
set_option maxRecDepth 20000 in
theorem ggX9_init_X3_init : GoodIn wsX9_init wsX3_init := goodIn_r _ [13, 14, 2, 3, 15, 8, 16, 17, 18, 19] (by decide +kernel) (by decide +kernel)
set_option maxRecDepth 20000 in
theorem gX9_init_X3_init_n11 : GoodIn wsX9_init (wsX3_init) := ggX9_init_X3_init
theorem dX9_init_0 : decode cX9_init 0 = .ok (.aload_n 0, 1) := by decide +kernel
theorem dX9_init_1 : decode cX9_init 1 = .ok (.invokespecial 3, 3) := by decide +kernel
theorem dX9_init_4 : decode cX9_init 4 = .ok (.aload_n 0, 1) := by decide +kernel
theorem dX9_init_5 : decode cX9_init 5 = .ok (.new 9, 3) := by decide +kernel
theorem dX9_init_8 : decode cX9_init 8 = .ok (.dup, 1) := by decide +kernel
theorem dX9_init_9 : decode cX9_init 9 = .ok (.invokespecial 11, 3) := by decide +kernel
theorem dX9_init_12 : decode cX9_init 12 = .ok (.putfield 12, 3) := by decide +kernel
theorem dX9_init_15 : decode cX9_init 15 = .ok (.aload_n 0, 1) := by decide +kernel
theorem dX9_init_16 : decode cX9_init 16 = .ok (.bipush 12, 2) := by decide +kernel
theorem dX9_init_18 : decode cX9_init 18 = .ok (.newarray .int, 2) := by decide +kernel
theorem dX9_init_20 : decode cX9_init 20 = .ok (.putfield 18, 3) := by decide +kernel
theorem dX9_init_23 : decode cX9_init 23 = .ok (.aload_n 0, 1) := by decide +kernel
theorem dX9_init_24 : decode cX9_init 24 = .ok (.iconst 0, 1) := by decide +kernel
theorem dX9_init_25 : decode cX9_init 25 = .ok (.putfield 22, 3) := by decide +kernel
theorem dX9_init_28 : decode cX9_init 28 = .ok (.aload_n 0, 1) := by decide +kernel
theorem dX9_init_29 : decode cX9_init 29 = .ok (.iconst (-1), 1) := by decide +kernel
theorem dX9_init_30 : decode cX9_init 30 = .ok (.putfield 26, 3) := by decide +kernel
theorem dX9_init_33 : decode cX9_init 33 = .ok (.return_, 1) := by decide +kernel
set_option maxRecDepth 20000 in
theorem ggX9_bring_X3_goesWithoutFill : GoodIn wsX9_bring wsX3_goesWithoutFill := goodIn_r _ [7, 8, 9, 10, 11, 5, 12, 13, 14, 15, 16, 17, 18, 19, 20, 21, 22, 23, 24, 25, 26, 27, 28, 29, 30, 31, 32, 33, 34, 35, 36, 37, 38, 39, 40, 41, 42, 43, 44, 68, 69, 65, 66, 67] (by decide +kernel) (by decide +kernel)
set_option maxRecDepth 20000 in
theorem gX9_bring_X3_goesWithoutFill_n34 : GoodIn wsX9_bring (wsX3_goesWithoutFill) := ggX9_bring_X3_goesWithoutFill
theorem dX9_bring_0 : decode cX9_bring 0 = .ok (.aload_n 0, 1) := by decide +kernel
theorem dX9_bring_1 : decode cX9_bring 1 = .ok (.getfield 26, 3) := by decide +kernel
theorem dX9_bring_4 : decode cX9_bring 4 = .ok (.aload_n 1, 1) := by decide +kernel
theorem dX9_bring_5 : decode cX9_bring 5 = .ok (.getfield 29, 3) := by decide +kernel
theorem dX9_bring_8 : decode cX9_bring 8 = .ok (.if_icmp .ne 4, 3) := by decide +kernel
theorem dX9_bring_12 : decode cX9_bring 12 = .ok (.aload_n 0, 1) := by decide +kernel
theorem dX9_bring_13 : decode cX9_bring 13 = .ok (.aload_n 1, 1) := by decide +kernel
theorem dX9_bring_14 : decode cX9_bring 14 = .ok (.getfield 29, 3) := by decide +kernel
theorem dX9_bring_17 : decode cX9_bring 17 = .ok (.putfield 26, 3) := by decide +kernel
theorem dX9_bring_20 : decode cX9_bring 20 = .ok (.aload_n 0, 1) := by decide +kernel
theorem dX9_bring_21 : decode cX9_bring 21 = .ok (.aload_n 0, 1) := by decide +kernel
theorem dX9_bring_22 : decode cX9_bring 22 = .ok (.getfield 12, 3) := by decide +kernel
theorem dX9_bring_25 : decode cX9_bring 25 = .ok (.aload_n 1, 1) := by decide +kernel
theorem dX9_bring_26 : decode cX9_bring 26 = .ok (.invokevirtual 34, 3) := by decide +kernel
theorem dX9_bring_29 : decode cX9_bring 29 = .ok (.ifCond .eq 7, 3) := by decide +kernel
theorem dX9_bring_32 : decode cX9_bring 32 = .ok (.iconst 0, 1) := by decide +kernel
theorem dX9_bring_33 : decode cX9_bring 33 = .ok (.goto 8, 3) := by decide +kernel
theorem dX9_bring_41 : decode cX9_bring 41 = .ok (.putfield 22, 3) := by decide +kernel
theorem dX9_bring_44 : decode cX9_bring 44 = .ok (.return_, 1) := by decide +kernel
set_option maxRecDepth 20000 in
theorem ggX10_init_J7_fill_53178 : GoodIn wsX10_init wsJ7_fill_53178 := goodIn_r _ [11] (by decide +kernel) (by decide +kernel)
set_option maxRecDepth 20000 in
theorem gX10_init_J7_fill_53178 : GoodIn wsX10_init (va_wsS RX10 22 yJ7_fill_53178 wsJ7_fill_53178) := goodIn_app (goodIn_of _ (by decide +kernel)) ggX10_init_J7_fill_53178
theorem dX10_init_0 : decode cX10_init 0 = .ok (.aload_n 0, 1) := by decide +kernel
theorem dX10_init_1 : decode cX10_init 1 = .ok (.invokespecial 3, 3) := by decide +kernel
theorem dX10_init_4 : decode cX10_init 4 = .ok (.aload_n 0, 1) := by decide +kernel
theorem dX10_init_5 : decode cX10_init 5 = .ok (.bipush 12, 2) := by decide +kernel
theorem dX10_init_7 : decode cX10_init 7 = .ok (.newarray .int, 2) := by decide +kernel
theorem dX10_init_9 : decode cX10_init 9 = .ok (.putfield 9, 3) := by decide +kernel
theorem dX10_init_12 : decode cX10_init 12 = .ok (.aload_n 0, 1) := by decide +kernel
theorem dX10_init_13 : decode cX10_init 13 = .ok (.iconst 0, 1) := by decide +kernel
theorem dX10_init_14 : decode cX10_init 14 = .ok (.putfield 15, 3) := by decide +kernel
theorem dX10_init_17 : decode cX10_init 17 = .ok (.aload_n 0, 1) := by decide +kernel
theorem dX10_init_18 : decode cX10_init 18 = .ok (.iconst 0, 1) := by decide +kernel
theorem dX10_init_19 : decode cX10_init 19 = .ok (.putfield 19, 3) := by decide +kernel
theorem dX10_init_22 : decode cX10_init 22 = .ok (.aload_n 0, 1) := by decide +kernel
theorem dX10_init_23 : decode cX10_init 23 = .ok (.getfield 9, 3) := by decide +kernel
theorem dX10_init_26 : decode cX10_init 26 = .ok (.iconst (-1), 1) := by decide +kernel
theorem dX10_init_27 : decode cX10_init 27 = .ok (.invokestatic 22, 3) := by decide +kernel
theorem dX10_init_30 : decode cX10_init 30 = .ok (.return_, 1) := by decide +kernel
set_option maxRecDepth 20000 in
theorem ggX10_restart_J7_fill_53178 : GoodIn wsX10_restart wsJ7_fill_53178 := goodIn_r _ [7] (by decide +kernel) (by decide +kernel)
set_option maxRecDepth 20000 in
theorem gX10_restart_J7_fill_53178 : GoodIn wsX10_restart (va_wsS RX10 22 yJ7_fill_53178 wsJ7_fill_53178) := goodIn_app (goodIn_of _ (by decide +kernel)) ggX10_restart_J7_fill_53178
theorem dX10_restart_0 : decode cX10_restart 0 = .ok (.aload_n 0, 1) := by decide +kernel
theorem dX10_restart_1 : decode cX10_restart 1 = .ok (.iload_n 1, 1) := by decide +kernel
theorem dX10_restart_2 : decode cX10_restart 2 = .ok (.putfield 15, 3) := by decide +kernel
theorem dX10_restart_5 : decode cX10_restart 5 = .ok (.aload_n 0, 1) := by decide +kernel
theorem dX10_restart_6 : decode cX10_restart 6 = .ok (.getfield 9, 3) := by decide +kernel
theorem dX10_restart_9 : decode cX10_restart 9 = .ok (.iconst (-1), 1) := by decide +kernel
theorem dX10_restart_10 : decode cX10_restart 10 = .ok (.invokestatic 22, 3) := by decide +kernel
theorem dX10_restart_13 : decode cX10_restart 13 = .ok (.aload_n 0, 1) := by decide +kernel
theorem dX10_restart_14 : decode cX10_restart 14 = .ok (.dup, 1) := by decide +kernel
theorem dX10_restart_15 : decode cX10_restart 15 = .ok (.getfield 19, 3) := by decide +kernel
theorem dX10_restart_18 : decode cX10_restart 18 = .ok (.iconst 1, 1) := by decide +kernel
theorem dX10_restart_19 : decode cX10_restart 19 = .ok (.iadd, 1) := by decide +kernel
theorem dX10_restart_20 : decode cX10_restart 20 = .ok (.putfield 19, 3) := by decide +kernel
theorem dX10_restart_23 : decode cX10_restart 23 = .ok (.return_, 1) := by decide +kernel
theorem dX10_hasPlace_0 : decode cX10_hasPlace 0 = .ok (.iload_n 1, 1) := by decide +kernel
theorem dX10_hasPlace_1 : decode cX10_hasPlace 1 = .ok (.ifCond .lt 13, 3) := by decide +kernel
theorem dX10_hasPlace_4 : decode cX10_hasPlace 4 = .ok (.iload_n 1, 1) := by decide +kernel
theorem dX10_hasPlace_5 : decode cX10_hasPlace 5 = .ok (.bipush 12, 2) := by decide +kernel
theorem dX10_hasPlace_7 : decode cX10_hasPlace 7 = .ok (.if_icmp .ge 7, 3) := by decide +kernel
theorem dX10_hasPlace_10 : decode cX10_hasPlace 10 = .ok (.iconst 1, 1) := by decide +kernel
theorem dX10_hasPlace_11 : decode cX10_hasPlace 11 = .ok (.goto 4, 3) := by decide +kernel
theorem dX10_hasPlace_14 : decode cX10_hasPlace 14 = .ok (.iconst 0, 1) := by decide +kernel
theorem dX10_hasPlace_15 : decode cX10_hasPlace 15 = .ok (.ireturn, 1) := by decide +kernel
theorem dX10_hasRun_0 : decode cX10_hasRun 0 = .ok (.iload_n 1, 1) := by decide +kernel
theorem dX10_hasRun_1 : decode cX10_hasRun 1 = .ok (.ifCond .lt 25, 3) := by decide +kernel
theorem dX10_hasRun_4 : decode cX10_hasRun 4 = .ok (.iload_n 2, 1) := by decide +kernel
theorem dX10_hasRun_5 : decode cX10_hasRun 5 = .ok (.ifCond .lt 21, 3) := by decide +kernel
theorem dX10_hasRun_8 : decode cX10_hasRun 8 = .ok (.iload_n 1, 1) := by decide +kernel
theorem dX10_hasRun_9 : decode cX10_hasRun 9 = .ok (.bipush 12, 2) := by decide +kernel
theorem dX10_hasRun_11 : decode cX10_hasRun 11 = .ok (.if_icmp .gt 15, 3) := by decide +kernel
theorem dX10_hasRun_14 : decode cX10_hasRun 14 = .ok (.iload_n 2, 1) := by decide +kernel
theorem dX10_hasRun_15 : decode cX10_hasRun 15 = .ok (.bipush 12, 2) := by decide +kernel
theorem dX10_hasRun_17 : decode cX10_hasRun 17 = .ok (.iload_n 1, 1) := by decide +kernel
theorem dX10_hasRun_18 : decode cX10_hasRun 18 = .ok (.isub, 1) := by decide +kernel
theorem dX10_hasRun_19 : decode cX10_hasRun 19 = .ok (.if_icmp .gt 7, 3) := by decide +kernel
theorem dX10_hasRun_22 : decode cX10_hasRun 22 = .ok (.iconst 1, 1) := by decide +kernel
theorem dX10_hasRun_23 : decode cX10_hasRun 23 = .ok (.goto 4, 3) := by decide +kernel
theorem dX10_hasRun_26 : decode cX10_hasRun 26 = .ok (.iconst 0, 1) := by decide +kernel
theorem dX10_hasRun_27 : decode cX10_hasRun 27 = .ok (.ireturn, 1) := by decide +kernel
theorem dX10_put_0 : decode cX10_put 0 = .ok (.aload_n 0, 1) := by decide +kernel
theorem dX10_put_1 : decode cX10_put 1 = .ok (.getfield 9, 3) := by decide +kernel
theorem dX10_put_4 : decode cX10_put 4 = .ok (.iload_n 1, 1) := by decide +kernel
theorem dX10_put_5 : decode cX10_put 5 = .ok (.iload_n 2, 1) := by decide +kernel
theorem dX10_put_6 : decode cX10_put 6 = .ok (.iastore, 1) := by decide +kernel
theorem dX10_put_7 : decode cX10_put 7 = .ok (.aload_n 0, 1) := by decide +kernel
theorem dX10_put_8 : decode cX10_put 8 = .ok (.dup, 1) := by decide +kernel
theorem dX10_put_9 : decode cX10_put 9 = .ok (.getfield 19, 3) := by decide +kernel
theorem dX10_put_12 : decode cX10_put 12 = .ok (.iconst 1, 1) := by decide +kernel
theorem dX10_put_13 : decode cX10_put 13 = .ok (.iadd, 1) := by decide +kernel
theorem dX10_put_14 : decode cX10_put 14 = .ok (.putfield 19, 3) := by decide +kernel
theorem dX10_put_17 : decode cX10_put 17 = .ok (.return_, 1) := by decide +kernel
theorem dX10_move_0 : decode cX10_move 0 = .ok (.aload_n 0, 1) := by decide +kernel
theorem dX10_move_1 : decode cX10_move 1 = .ok (.getfield 9, 3) := by decide +kernel
theorem dX10_move_4 : decode cX10_move 4 = .ok (.iload_n 1, 1) := by decide +kernel
theorem dX10_move_5 : decode cX10_move 5 = .ok (.aload_n 0, 1) := by decide +kernel
theorem dX10_move_6 : decode cX10_move 6 = .ok (.getfield 9, 3) := by decide +kernel
theorem dX10_move_9 : decode cX10_move 9 = .ok (.iload_n 2, 1) := by decide +kernel
theorem dX10_move_10 : decode cX10_move 10 = .ok (.iload_n 3, 1) := by decide +kernel
theorem dX10_move_11 : decode cX10_move 11 = .ok (.invokestatic 28, 3) := by decide +kernel
theorem dX10_move_14 : decode cX10_move 14 = .ok (.aload_n 0, 1) := by decide +kernel
theorem dX10_move_15 : decode cX10_move 15 = .ok (.dup, 1) := by decide +kernel
theorem dX10_move_16 : decode cX10_move 16 = .ok (.getfield 19, 3) := by decide +kernel
theorem dX10_move_19 : decode cX10_move 19 = .ok (.iconst 1, 1) := by decide +kernel
theorem dX10_move_20 : decode cX10_move 20 = .ok (.iadd, 1) := by decide +kernel
theorem dX10_move_21 : decode cX10_move 21 = .ok (.putfield 19, 3) := by decide +kernel
theorem dX10_move_24 : decode cX10_move 24 = .ok (.return_, 1) := by decide +kernel
theorem dX10_present_0 : decode cX10_present 0 = .ok (.iconst 0, 1) := by decide +kernel
theorem dX10_present_1 : decode cX10_present 1 = .ok (.istore_n 1, 1) := by decide +kernel
theorem dX10_present_2 : decode cX10_present 2 = .ok (.iconst 0, 1) := by decide +kernel
theorem dX10_present_3 : decode cX10_present 3 = .ok (.istore_n 2, 1) := by decide +kernel
theorem dX10_present_4 : decode cX10_present 4 = .ok (.iload_n 2, 1) := by decide +kernel
theorem dX10_present_5 : decode cX10_present 5 = .ok (.bipush 12, 2) := by decide +kernel
theorem dX10_present_7 : decode cX10_present 7 = .ok (.if_icmp .ge 22, 3) := by decide +kernel
theorem dX10_present_10 : decode cX10_present 10 = .ok (.aload_n 0, 1) := by decide +kernel
theorem dX10_present_11 : decode cX10_present 11 = .ok (.getfield 9, 3) := by decide +kernel
theorem dX10_present_14 : decode cX10_present 14 = .ok (.iload_n 2, 1) := by decide +kernel
theorem dX10_present_15 : decode cX10_present 15 = .ok (.iaload, 1) := by decide +kernel
theorem dX10_present_16 : decode cX10_present 16 = .ok (.iconst (-1), 1) := by decide +kernel
theorem dX10_present_17 : decode cX10_present 17 = .ok (.if_icmp .eq 6, 3) := by decide +kernel
theorem dX10_present_23 : decode cX10_present 23 = .ok (.iinc 2 1, 3) := by decide +kernel
theorem dX10_present_26 : decode cX10_present 26 = .ok (.goto (-22), 3) := by decide +kernel
theorem dX10_present_29 : decode cX10_present 29 = .ok (.iload_n 1, 1) := by decide +kernel
theorem dX10_present_30 : decode cX10_present 30 = .ok (.ireturn, 1) := by decide +kernel
set_option maxRecDepth 20000 in
theorem ggX11_init_X4_init : GoodIn wsX11_init wsX4_init := goodIn_r _ [46, 47, 2, 3, 42, 48, 49, 50, 153, 154, 155] (by decide +kernel) (by decide +kernel)
set_option maxRecDepth 20000 in
theorem gX11_init_X4_init_n9 : GoodIn wsX11_init (wsX4_init) := ggX11_init_X4_init
set_option maxRecDepth 20000 in
theorem ggX11_init_X10_init : GoodIn wsX11_init wsX10_init := goodIn_r _ [52, 53, 2, 3, 42, 54, 55, 56, 57, 58, 59, 60, 169, 170, 171] (by decide +kernel) (by decide +kernel)
set_option maxRecDepth 20000 in
theorem gX11_init_X10_init_n18 : GoodIn wsX11_init (wsX10_init) := ggX11_init_X10_init
set_option maxRecDepth 20000 in
theorem ggX11_init_X6_init : GoodIn wsX11_init wsX6_init := goodIn_r _ [62, 63, 2, 3, 64, 65, 66, 67, 68, 69, 70, 71, 42, 72, 73, 74, 75, 76, 77, 78, 79, 80, 81, 82, 83, 84, 85, 86, 87, 88, 89, 90, 91, 92, 93, 94, 95, 214, 215, 172, 173, 174, 175, 176, 177, 178, 179, 180, 216, 217, 218, 219, 220, 221] (by decide +kernel) (by decide +kernel)
set_option maxRecDepth 20000 in
theorem gX11_init_X6_init_n25 : GoodIn wsX11_init (wsX6_init) := ggX11_init_X6_init
set_option maxRecDepth 20000 in
theorem ggX11_init_X9_init : GoodIn wsX11_init wsX9_init := goodIn_r _ [97, 98, 2, 3, 99, 65, 66, 100, 42, 101, 102, 103, 79, 80, 81, 82, 83, 84, 214, 215, 181, 182, 183, 184] (by decide +kernel) (by decide +kernel)
set_option maxRecDepth 20000 in
theorem gX11_init_X9_init_n32 : GoodIn wsX11_init (wsX9_init) := ggX11_init_X9_init
set_option maxRecDepth 20000 in
theorem ggX11_init_X1_init : GoodIn wsX11_init wsX1_init := goodIn_r _ [105, 106, 2, 3, 42, 107, 108, 109, 110, 111, 112, 113, 114, 185, 186, 187, 188, 189, 190, 191, 192] (by decide +kernel) (by decide +kernel)
set_option maxRecDepth 20000 in
theorem gX11_init_X1_init_n39 : GoodIn wsX11_init (wsX1_init) := ggX11_init_X1_init
set_option maxRecDepth 20000 in
theorem ggX11_init_X7_init : GoodIn wsX11_init wsX7_init := goodIn_r _ [116, 117, 2, 3, 42, 118, 119, 120, 121, 193, 194, 195, 196] (by decide +kernel) (by decide +kernel)
set_option maxRecDepth 20000 in
theorem gX11_init_X7_init_n51 : GoodIn wsX11_init (wsX7_init) := ggX11_init_X7_init
set_option maxRecDepth 20000 in
theorem ggX11_init_X8_init : GoodIn wsX11_init wsX8_init := goodIn_r _ [123, 124, 2, 3, 42, 125, 126, 127, 128, 129, 197, 198, 199, 200, 201] (by decide +kernel) (by decide +kernel)
set_option maxRecDepth 20000 in
theorem gX11_init_X8_init_n58 : GoodIn wsX11_init (wsX8_init) := ggX11_init_X8_init
set_option maxRecDepth 20000 in
theorem ggX11_init_X2_init : GoodIn wsX11_init wsX2_init := goodIn_r _ [131, 132, 2, 3, 133, 42, 134, 135, 136, 137, 202, 203, 204, 205] (by decide +kernel) (by decide +kernel)
set_option maxRecDepth 20000 in
theorem gX11_init_X2_init_n65 : GoodIn wsX11_init (wsX2_init) := ggX11_init_X2_init
set_option maxRecDepth 20000 in
theorem ggX11_init_X0_init : GoodIn wsX11_init wsX0_init := goodIn_r _ [139, 140, 2, 3, 141, 142, 143, 144, 42, 145, 146, 147, 148, 149, 150, 151, 152, 206, 207, 208, 209, 210, 211, 212, 213] (by decide +kernel) (by decide +kernel)
set_option maxRecDepth 20000 in
theorem gX11_init_X0_init_n72 : GoodIn wsX11_init (wsX0_init) := ggX11_init_X0_init
theorem dX11_init_0 : decode cX11_init 0 = .ok (.aload_n 0, 1) := by decide +kernel
theorem dX11_init_1 : decode cX11_init 1 = .ok (.invokespecial 1, 3) := by decide +kernel
theorem dX11_init_4 : decode cX11_init 4 = .ok (.aload_n 0, 1) := by decide +kernel
theorem dX11_init_5 : decode cX11_init 5 = .ok (.new 7, 3) := by decide +kernel
theorem dX11_init_8 : decode cX11_init 8 = .ok (.dup, 1) := by decide +kernel
theorem dX11_init_9 : decode cX11_init 9 = .ok (.invokespecial 9, 3) := by decide +kernel
theorem dX11_init_12 : decode cX11_init 12 = .ok (.putfield 10, 3) := by decide +kernel
theorem dX11_init_15 : decode cX11_init 15 = .ok (.aload_n 0, 1) := by decide +kernel
theorem dX11_init_16 : decode cX11_init 16 = .ok (.new 16, 3) := by decide +kernel
theorem dX11_init_19 : decode cX11_init 19 = .ok (.dup, 1) := by decide +kernel
theorem dX11_init_20 : decode cX11_init 20 = .ok (.invokespecial 18, 3) := by decide +kernel
theorem dX11_init_23 : decode cX11_init 23 = .ok (.putfield 19, 3) := by decide +kernel
theorem dX11_init_26 : decode cX11_init 26 = .ok (.aload_n 0, 1) := by decide +kernel
theorem dX11_init_27 : decode cX11_init 27 = .ok (.new 23, 3) := by decide +kernel
theorem dX11_init_30 : decode cX11_init 30 = .ok (.dup, 1) := by decide +kernel
theorem dX11_init_31 : decode cX11_init 31 = .ok (.invokespecial 25, 3) := by decide +kernel
theorem dX11_init_34 : decode cX11_init 34 = .ok (.putfield 26, 3) := by decide +kernel
theorem dX11_init_37 : decode cX11_init 37 = .ok (.aload_n 0, 1) := by decide +kernel
theorem dX11_init_38 : decode cX11_init 38 = .ok (.new 30, 3) := by decide +kernel
theorem dX11_init_41 : decode cX11_init 41 = .ok (.dup, 1) := by decide +kernel
theorem dX11_init_42 : decode cX11_init 42 = .ok (.invokespecial 32, 3) := by decide +kernel
theorem dX11_init_45 : decode cX11_init 45 = .ok (.putfield 33, 3) := by decide +kernel
theorem dX11_init_48 : decode cX11_init 48 = .ok (.aload_n 0, 1) := by decide +kernel
theorem dX11_init_49 : decode cX11_init 49 = .ok (.new 37, 3) := by decide +kernel
theorem dX11_init_52 : decode cX11_init 52 = .ok (.dup, 1) := by decide +kernel
theorem dX11_init_53 : decode cX11_init 53 = .ok (.iconst 0, 1) := by decide +kernel
theorem dX11_init_54 : decode cX11_init 54 = .ok (.invokespecial 39, 3) := by decide +kernel
theorem dX11_init_57 : decode cX11_init 57 = .ok (.putfield 42, 3) := by decide +kernel
theorem dX11_init_60 : decode cX11_init 60 = .ok (.aload_n 0, 1) := by decide +kernel
theorem dX11_init_61 : decode cX11_init 61 = .ok (.new 37, 3) := by decide +kernel
theorem dX11_init_64 : decode cX11_init 64 = .ok (.dup, 1) := by decide +kernel
theorem dX11_init_65 : decode cX11_init 65 = .ok (.iconst 1, 1) := by decide +kernel
theorem dX11_init_66 : decode cX11_init 66 = .ok (.invokespecial 39, 3) := by decide +kernel
theorem dX11_init_69 : decode cX11_init 69 = .ok (.putfield 46, 3) := by decide +kernel
theorem dX11_init_72 : decode cX11_init 72 = .ok (.aload_n 0, 1) := by decide +kernel
theorem dX11_init_73 : decode cX11_init 73 = .ok (.new 49, 3) := by decide +kernel
theorem dX11_init_76 : decode cX11_init 76 = .ok (.dup, 1) := by decide +kernel
theorem dX11_init_77 : decode cX11_init 77 = .ok (.invokespecial 51, 3) := by decide +kernel
theorem dX11_init_80 : decode cX11_init 80 = .ok (.putfield 52, 3) := by decide +kernel
theorem dX11_init_83 : decode cX11_init 83 = .ok (.aload_n 0, 1) := by decide +kernel
theorem dX11_init_84 : decode cX11_init 84 = .ok (.new 56, 3) := by decide +kernel
theorem dX11_init_87 : decode cX11_init 87 = .ok (.dup, 1) := by decide +kernel
theorem dX11_init_88 : decode cX11_init 88 = .ok (.invokespecial 58, 3) := by decide +kernel
theorem dX11_init_91 : decode cX11_init 91 = .ok (.putfield 59, 3) := by decide +kernel
theorem dX11_init_94 : decode cX11_init 94 = .ok (.aload_n 0, 1) := by decide +kernel
theorem dX11_init_95 : decode cX11_init 95 = .ok (.new 63, 3) := by decide +kernel
theorem dX11_init_98 : decode cX11_init 98 = .ok (.dup, 1) := by decide +kernel
theorem dX11_init_99 : decode cX11_init 99 = .ok (.invokespecial 65, 3) := by decide +kernel
theorem dX11_init_102 : decode cX11_init 102 = .ok (.putfield 66, 3) := by decide +kernel
theorem dX11_init_105 : decode cX11_init 105 = .ok (.aload_n 0, 1) := by decide +kernel
theorem dX11_init_106 : decode cX11_init 106 = .ok (.new 70, 3) := by decide +kernel
theorem dX11_init_109 : decode cX11_init 109 = .ok (.dup, 1) := by decide +kernel
theorem dX11_init_110 : decode cX11_init 110 = .ok (.bipush 12, 2) := by decide +kernel
theorem dX11_init_112 : decode cX11_init 112 = .ok (.invokespecial 72, 3) := by decide +kernel
theorem dX11_init_115 : decode cX11_init 115 = .ok (.putfield 75, 3) := by decide +kernel
theorem dX11_init_118 : decode cX11_init 118 = .ok (.aload_n 0, 1) := by decide +kernel
theorem dX11_init_119 : decode cX11_init 119 = .ok (.new 70, 3) := by decide +kernel
theorem dX11_init_122 : decode cX11_init 122 = .ok (.dup, 1) := by decide +kernel
theorem dX11_init_123 : decode cX11_init 123 = .ok (.bipush 8, 2) := by decide +kernel
theorem dX11_init_125 : decode cX11_init 125 = .ok (.invokespecial 72, 3) := by decide +kernel
theorem dX11_init_128 : decode cX11_init 128 = .ok (.putfield 79, 3) := by decide +kernel
theorem dX11_init_131 : decode cX11_init 131 = .ok (.aload_n 0, 1) := by decide +kernel
theorem dX11_init_132 : decode cX11_init 132 = .ok (.iconst 5, 1) := by decide +kernel
theorem dX11_init_133 : decode cX11_init 133 = .ok (.newarray .int, 2) := by decide +kernel
theorem dX11_init_135 : decode cX11_init 135 = .ok (.putfield 82, 3) := by decide +kernel
theorem dX11_init_138 : decode cX11_init 138 = .ok (.aload_n 0, 1) := by decide +kernel
theorem dX11_init_139 : decode cX11_init 139 = .ok (.iconst 0, 1) := by decide +kernel
theorem dX11_init_140 : decode cX11_init 140 = .ok (.putfield 86, 3) := by decide +kernel
theorem dX11_init_143 : decode cX11_init 143 = .ok (.return_, 1) := by decide +kernel
set_option maxRecDepth 20000 in
theorem ggX11_nodes_X11_startGraph : GoodIn wsX11_nodes wsX11_startGraph := goodIn_r _ [5, 6, 7, 8, 9, 10, 11, 12, 13, 14, 15, 16, 17, 18, 19, 20, 21, 22, 23, 24, 25, 26, 27, 28, 29, 30, 31, 32, 4, 33, 34, 35, 36, 37, 38, 39, 40, 41, 42, 43, 44, 45, 46, 47, 48, 49, 50, 51, 52, 53, 54, 55, 56, 57, 58] (by decide +kernel) (by decide +kernel)
set_option maxRecDepth 20000 in
theorem gX11_nodes_X11_startGraph : GoodIn wsX11_nodes (wsV RX11 90 RX11 yX11_startGraph wsX11_startGraph) := goodIn_app (goodIn_of _ (by decide +kernel)) ggX11_nodes_X11_startGraph
theorem dX11_nodes_0 : decode cX11_nodes 0 = .ok (.iload_n 1, 1) := by decide +kernel
theorem dX11_nodes_1 : decode cX11_nodes 1 = .ok (.ifCond .lt 9, 3) := by decide +kernel
theorem dX11_nodes_4 : decode cX11_nodes 4 = .ok (.iload_n 1, 1) := by decide +kernel
theorem dX11_nodes_5 : decode cX11_nodes 5 = .ok (.bipush 12, 2) := by decide +kernel
theorem dX11_nodes_7 : decode cX11_nodes 7 = .ok (.if_icmp .le 5, 3) := by decide +kernel
