set_option maxRecDepth 20000 in
theorem gX3_goesWithoutFill_X4_all_n70 : GoodIn wsX3_goesWithoutFill (wsX4_all) := ggX3_goesWithoutFill_X4_all
set_option maxRecDepth 20000 in
theorem ggX3_goesWithoutFill_X3_leastTight : GoodIn wsX3_goesWithoutFill wsX3_leastTight := goodIn_r _ [20, 1, 21, 22, 23, 24, 25, 26, 5, 27, 7, 28, 29, 30, 31, 32, 33, 34, 39, 40] (by decide +kernel) (by decide +kernel)
set_option maxRecDepth 20000 in
theorem gX3_goesWithoutFill_X3_leastTight : GoodIn wsX3_goesWithoutFill (wsV RX3 74 RX3 yX3_leastTight wsX3_leastTight) := goodIn_app (goodIn_of _ (by decide +kernel)) ggX3_goesWithoutFill_X3_leastTight
set_option maxRecDepth 20000 in
theorem ggX3_goesWithoutFill_X3_leave : GoodIn wsX3_goesWithoutFill wsX3_leave := goodIn_r _ [38, 7, 8, 9, 10, 11, 1, 28, 29, 30, 31, 32, 33, 22, 34, 39, 40] (by decide +kernel) (by decide +kernel)
set_option maxRecDepth 20000 in
theorem gX3_goesWithoutFill_X3_leave : GoodIn wsX3_goesWithoutFill (wsV RX3 77 RX3 yX3_leave wsX3_leave) := goodIn_app (goodIn_of _ (by decide +kernel)) ggX3_goesWithoutFill_X3_leave
theorem dX3_goesWithoutFill_0 : decode cX3_goesWithoutFill 0 = .ok (.aload_n 0, 1) := by decide +kernel
theorem dX3_goesWithoutFill_1 : decode cX3_goesWithoutFill 1 = .ok (.aload_n 1, 1) := by decide +kernel
theorem dX3_goesWithoutFill_2 : decode cX3_goesWithoutFill 2 = .ok (.invokevirtual 66, 3) := by decide +kernel
theorem dX3_goesWithoutFill_5 : decode cX3_goesWithoutFill 5 = .ok (.aload_n 1, 1) := by decide +kernel
theorem dX3_goesWithoutFill_6 : decode cX3_goesWithoutFill 6 = .ok (.invokevirtual 70, 3) := by decide +kernel
theorem dX3_goesWithoutFill_9 : decode cX3_goesWithoutFill 9 = .ok (.istore_n 2, 1) := by decide +kernel
theorem dX3_goesWithoutFill_10 : decode cX3_goesWithoutFill 10 = .ok (.iconst 0, 1) := by decide +kernel
theorem dX3_goesWithoutFill_11 : decode cX3_goesWithoutFill 11 = .ok (.istore_n 3, 1) := by decide +kernel
theorem dX3_goesWithoutFill_12 : decode cX3_goesWithoutFill 12 = .ok (.iload_n 3, 1) := by decide +kernel
theorem dX3_goesWithoutFill_13 : decode cX3_goesWithoutFill 13 = .ok (.aload_n 0, 1) := by decide +kernel
theorem dX3_goesWithoutFill_14 : decode cX3_goesWithoutFill 14 = .ok (.getfield 16, 3) := by decide +kernel
theorem dX3_goesWithoutFill_17 : decode cX3_goesWithoutFill 17 = .ok (.if_icmp .ge 40, 3) := by decide +kernel
theorem dX3_goesWithoutFill_20 : decode cX3_goesWithoutFill 20 = .ok (.aload_n 0, 1) := by decide +kernel
theorem dX3_goesWithoutFill_21 : decode cX3_goesWithoutFill 21 = .ok (.iload_n 3, 1) := by decide +kernel
theorem dX3_goesWithoutFill_22 : decode cX3_goesWithoutFill 22 = .ok (.iload_n 2, 1) := by decide +kernel
theorem dX3_goesWithoutFill_23 : decode cX3_goesWithoutFill 23 = .ok (.invokevirtual 74, 3) := by decide +kernel
theorem dX3_goesWithoutFill_26 : decode cX3_goesWithoutFill 26 = .ok (.istore 4, 2) := by decide +kernel
theorem dX3_goesWithoutFill_28 : decode cX3_goesWithoutFill 28 = .ok (.iload 4, 2) := by decide +kernel
theorem dX3_goesWithoutFill_30 : decode cX3_goesWithoutFill 30 = .ok (.ifCond .ge 5, 3) := by decide +kernel
theorem dX3_goesWithoutFill_33 : decode cX3_goesWithoutFill 33 = .ok (.iconst 0, 1) := by decide +kernel
theorem dX3_goesWithoutFill_34 : decode cX3_goesWithoutFill 34 = .ok (.ireturn, 1) := by decide +kernel
theorem dX3_goesWithoutFill_35 : decode cX3_goesWithoutFill 35 = .ok (.aload_n 0, 1) := by decide +kernel
theorem dX3_goesWithoutFill_36 : decode cX3_goesWithoutFill 36 = .ok (.iload_n 3, 1) := by decide +kernel
theorem dX3_goesWithoutFill_37 : decode cX3_goesWithoutFill 37 = .ok (.iload 4, 2) := by decide +kernel
theorem dX3_goesWithoutFill_39 : decode cX3_goesWithoutFill 39 = .ok (.invokevirtual 77, 3) := by decide +kernel
theorem dX3_goesWithoutFill_42 : decode cX3_goesWithoutFill 42 = .ok (.iload_n 2, 1) := by decide +kernel
theorem dX3_goesWithoutFill_43 : decode cX3_goesWithoutFill 43 = .ok (.iconst 1, 1) := by decide +kernel
theorem dX3_goesWithoutFill_44 : decode cX3_goesWithoutFill 44 = .ok (.iload 4, 2) := by decide +kernel
theorem dX3_goesWithoutFill_46 : decode cX3_goesWithoutFill 46 = .ok (.ishl, 1) := by decide +kernel
theorem dX3_goesWithoutFill_47 : decode cX3_goesWithoutFill 47 = .ok (.iconst (-1), 1) := by decide +kernel
theorem dX3_goesWithoutFill_48 : decode cX3_goesWithoutFill 48 = .ok (.ixor, 1) := by decide +kernel
theorem dX3_goesWithoutFill_49 : decode cX3_goesWithoutFill 49 = .ok (.iand, 1) := by decide +kernel
theorem dX3_goesWithoutFill_50 : decode cX3_goesWithoutFill 50 = .ok (.istore_n 2, 1) := by decide +kernel
theorem dX3_goesWithoutFill_51 : decode cX3_goesWithoutFill 51 = .ok (.iinc 3 1, 3) := by decide +kernel
theorem dX3_goesWithoutFill_54 : decode cX3_goesWithoutFill 54 = .ok (.goto (-42), 3) := by decide +kernel
theorem dX3_goesWithoutFill_57 : decode cX3_goesWithoutFill 57 = .ok (.iconst 1, 1) := by decide +kernel
theorem dX3_goesWithoutFill_58 : decode cX3_goesWithoutFill 58 = .ok (.ireturn, 1) := by decide +kernel
theorem dX4_init_0 : decode cX4_init 0 = .ok (.aload_n 0, 1) := by decide +kernel
theorem dX4_init_1 : decode cX4_init 1 = .ok (.invokespecial 3, 3) := by decide +kernel
theorem dX4_init_4 : decode cX4_init 4 = .ok (.aload_n 0, 1) := by decide +kernel
theorem dX4_init_5 : decode cX4_init 5 = .ok (.bipush 12, 2) := by decide +kernel
theorem dX4_init_7 : decode cX4_init 7 = .ok (.newarray .int, 2) := by decide +kernel
theorem dX4_init_9 : decode cX4_init 9 = .ok (.putfield 9, 3) := by decide +kernel
theorem dX4_init_12 : decode cX4_init 12 = .ok (.aload_n 0, 1) := by decide +kernel
theorem dX4_init_13 : decode cX4_init 13 = .ok (.iconst 0, 1) := by decide +kernel
theorem dX4_init_14 : decode cX4_init 14 = .ok (.putfield 15, 3) := by decide +kernel
theorem dX4_init_17 : decode cX4_init 17 = .ok (.aload_n 0, 1) := by decide +kernel
theorem dX4_init_18 : decode cX4_init 18 = .ok (.iconst 0, 1) := by decide +kernel
theorem dX4_init_19 : decode cX4_init 19 = .ok (.putfield 19, 3) := by decide +kernel
theorem dX4_init_22 : decode cX4_init 22 = .ok (.return_, 1) := by decide +kernel
theorem dX4_has_0 : decode cX4_has 0 = .ok (.iload_n 1, 1) := by decide +kernel
theorem dX4_has_1 : decode cX4_has 1 = .ok (.ifCond .lt 15, 3) := by decide +kernel
theorem dX4_has_4 : decode cX4_has 4 = .ok (.iload_n 1, 1) := by decide +kernel
theorem dX4_has_5 : decode cX4_has 5 = .ok (.aload_n 0, 1) := by decide +kernel
theorem dX4_has_6 : decode cX4_has 6 = .ok (.getfield 15, 3) := by decide +kernel
theorem dX4_has_9 : decode cX4_has 9 = .ok (.if_icmp .ge 7, 3) := by decide +kernel
theorem dX4_has_12 : decode cX4_has 12 = .ok (.iconst 1, 1) := by decide +kernel
theorem dX4_has_13 : decode cX4_has 13 = .ok (.goto 4, 3) := by decide +kernel
theorem dX4_has_16 : decode cX4_has 16 = .ok (.iconst 0, 1) := by decide +kernel
theorem dX4_has_17 : decode cX4_has 17 = .ok (.ireturn, 1) := by decide +kernel
theorem dX4_all_0 : decode cX4_all 0 = .ok (.iconst 1, 1) := by decide +kernel
theorem dX4_all_1 : decode cX4_all 1 = .ok (.aload_n 0, 1) := by decide +kernel
theorem dX4_all_2 : decode cX4_all 2 = .ok (.getfield 15, 3) := by decide +kernel
theorem dX4_all_5 : decode cX4_all 5 = .ok (.ishl, 1) := by decide +kernel
theorem dX4_all_6 : decode cX4_all 6 = .ok (.iconst 1, 1) := by decide +kernel
theorem dX4_all_7 : decode cX4_all 7 = .ok (.isub, 1) := by decide +kernel
theorem dX4_all_8 : decode cX4_all 8 = .ok (.ireturn, 1) := by decide +kernel
set_option maxRecDepth 20000 in
theorem ggX4_touches_X11_in : GoodIn wsX4_touches wsX11_in := goodIn_r _ [4] (by decide +kernel) (by decide +kernel)
set_option maxRecDepth 20000 in
theorem gX4_touches_X11_in_n22 : GoodIn wsX4_touches (wsX11_in) := ggX4_touches_X11_in
theorem dX4_touches_0 : decode cX4_touches 0 = .ok (.aload_n 0, 1) := by decide +kernel
theorem dX4_touches_1 : decode cX4_touches 1 = .ok (.getfield 9, 3) := by decide +kernel
theorem dX4_touches_4 : decode cX4_touches 4 = .ok (.iload_n 1, 1) := by decide +kernel
theorem dX4_touches_5 : decode cX4_touches 5 = .ok (.iaload, 1) := by decide +kernel
theorem dX4_touches_6 : decode cX4_touches 6 = .ok (.iload_n 2, 1) := by decide +kernel
theorem dX4_touches_7 : decode cX4_touches 7 = .ok (.invokestatic 22, 3) := by decide +kernel
theorem dX4_touches_10 : decode cX4_touches 10 = .ok (.ireturn, 1) := by decide +kernel
set_option maxRecDepth 20000 in
theorem ggX4_restart_J7_fill_53178 : GoodIn wsX4_restart wsJ7_fill_53178 := goodIn_r _ [7] (by decide +kernel) (by decide +kernel)
set_option maxRecDepth 20000 in
theorem gX4_restart_J7_fill_53178 : GoodIn wsX4_restart (va_wsS RX4 26 yJ7_fill_53178 wsJ7_fill_53178) := goodIn_app (goodIn_of _ (by decide +kernel)) ggX4_restart_J7_fill_53178
theorem dX4_restart_0 : decode cX4_restart 0 = .ok (.aload_n 0, 1) := by decide +kernel
theorem dX4_restart_1 : decode cX4_restart 1 = .ok (.iload_n 1, 1) := by decide +kernel
theorem dX4_restart_2 : decode cX4_restart 2 = .ok (.putfield 15, 3) := by decide +kernel
theorem dX4_restart_5 : decode cX4_restart 5 = .ok (.aload_n 0, 1) := by decide +kernel
theorem dX4_restart_6 : decode cX4_restart 6 = .ok (.getfield 9, 3) := by decide +kernel
theorem dX4_restart_9 : decode cX4_restart 9 = .ok (.iconst 0, 1) := by decide +kernel
theorem dX4_restart_10 : decode cX4_restart 10 = .ok (.invokestatic 26, 3) := by decide +kernel
theorem dX4_restart_13 : decode cX4_restart 13 = .ok (.aload_n 0, 1) := by decide +kernel
theorem dX4_restart_14 : decode cX4_restart 14 = .ok (.dup, 1) := by decide +kernel
theorem dX4_restart_15 : decode cX4_restart 15 = .ok (.getfield 19, 3) := by decide +kernel
theorem dX4_restart_18 : decode cX4_restart 18 = .ok (.iconst 1, 1) := by decide +kernel
theorem dX4_restart_19 : decode cX4_restart 19 = .ok (.iadd, 1) := by decide +kernel
theorem dX4_restart_20 : decode cX4_restart 20 = .ok (.putfield 19, 3) := by decide +kernel
theorem dX4_restart_23 : decode cX4_restart 23 = .ok (.return_, 1) := by decide +kernel
theorem dX4_set_0 : decode cX4_set 0 = .ok (.aload_n 0, 1) := by decide +kernel
theorem dX4_set_1 : decode cX4_set 1 = .ok (.getfield 9, 3) := by decide +kernel
theorem dX4_set_4 : decode cX4_set 4 = .ok (.iload_n 1, 1) := by decide +kernel
theorem dX4_set_5 : decode cX4_set 5 = .ok (.iload_n 3, 1) := by decide +kernel
theorem dX4_set_6 : decode cX4_set 6 = .ok (.ifCond .eq 16, 3) := by decide +kernel
theorem dX4_set_9 : decode cX4_set 9 = .ok (.aload_n 0, 1) := by decide +kernel
theorem dX4_set_10 : decode cX4_set 10 = .ok (.getfield 9, 3) := by decide +kernel
theorem dX4_set_13 : decode cX4_set 13 = .ok (.iload_n 1, 1) := by decide +kernel
theorem dX4_set_14 : decode cX4_set 14 = .ok (.iaload, 1) := by decide +kernel
theorem dX4_set_15 : decode cX4_set 15 = .ok (.iconst 1, 1) := by decide +kernel
theorem dX4_set_16 : decode cX4_set 16 = .ok (.iload_n 2, 1) := by decide +kernel
theorem dX4_set_17 : decode cX4_set 17 = .ok (.ishl, 1) := by decide +kernel
theorem dX4_set_18 : decode cX4_set 18 = .ok (.ior, 1) := by decide +kernel
theorem dX4_set_19 : decode cX4_set 19 = .ok (.goto 15, 3) := by decide +kernel
theorem dX4_set_22 : decode cX4_set 22 = .ok (.aload_n 0, 1) := by decide +kernel
theorem dX4_set_23 : decode cX4_set 23 = .ok (.getfield 9, 3) := by decide +kernel
theorem dX4_set_26 : decode cX4_set 26 = .ok (.iload_n 1, 1) := by decide +kernel
theorem dX4_set_27 : decode cX4_set 27 = .ok (.iaload, 1) := by decide +kernel
theorem dX4_set_28 : decode cX4_set 28 = .ok (.iconst 1, 1) := by decide +kernel
theorem dX4_set_29 : decode cX4_set 29 = .ok (.iload_n 2, 1) := by decide +kernel
theorem dX4_set_30 : decode cX4_set 30 = .ok (.ishl, 1) := by decide +kernel
theorem dX4_set_31 : decode cX4_set 31 = .ok (.iconst (-1), 1) := by decide +kernel
theorem dX4_set_32 : decode cX4_set 32 = .ok (.ixor, 1) := by decide +kernel
theorem dX4_set_33 : decode cX4_set 33 = .ok (.iand, 1) := by decide +kernel
theorem dX4_set_34 : decode cX4_set 34 = .ok (.iastore, 1) := by decide +kernel
theorem dX4_set_35 : decode cX4_set 35 = .ok (.aload_n 0, 1) := by decide +kernel
theorem dX4_set_36 : decode cX4_set 36 = .ok (.getfield 9, 3) := by decide +kernel
theorem dX4_set_39 : decode cX4_set 39 = .ok (.iload_n 2, 1) := by decide +kernel
theorem dX4_set_40 : decode cX4_set 40 = .ok (.iload_n 3, 1) := by decide +kernel
theorem dX4_set_41 : decode cX4_set 41 = .ok (.ifCond .eq 16, 3) := by decide +kernel
theorem dX4_set_44 : decode cX4_set 44 = .ok (.aload_n 0, 1) := by decide +kernel
theorem dX4_set_45 : decode cX4_set 45 = .ok (.getfield 9, 3) := by decide +kernel
theorem dX4_set_48 : decode cX4_set 48 = .ok (.iload_n 2, 1) := by decide +kernel
theorem dX4_set_49 : decode cX4_set 49 = .ok (.iaload, 1) := by decide +kernel
theorem dX4_set_50 : decode cX4_set 50 = .ok (.iconst 1, 1) := by decide +kernel
theorem dX4_set_51 : decode cX4_set 51 = .ok (.iload_n 1, 1) := by decide +kernel
theorem dX4_set_52 : decode cX4_set 52 = .ok (.ishl, 1) := by decide +kernel
theorem dX4_set_53 : decode cX4_set 53 = .ok (.ior, 1) := by decide +kernel
theorem dX4_set_54 : decode cX4_set 54 = .ok (.goto 15, 3) := by decide +kernel
theorem dX4_set_57 : decode cX4_set 57 = .ok (.aload_n 0, 1) := by decide +kernel
theorem dX4_set_58 : decode cX4_set 58 = .ok (.getfield 9, 3) := by decide +kernel
theorem dX4_set_61 : decode cX4_set 61 = .ok (.iload_n 2, 1) := by decide +kernel
theorem dX4_set_62 : decode cX4_set 62 = .ok (.iaload, 1) := by decide +kernel
theorem dX4_set_63 : decode cX4_set 63 = .ok (.iconst 1, 1) := by decide +kernel
theorem dX4_set_64 : decode cX4_set 64 = .ok (.iload_n 1, 1) := by decide +kernel
theorem dX4_set_65 : decode cX4_set 65 = .ok (.ishl, 1) := by decide +kernel
theorem dX4_set_66 : decode cX4_set 66 = .ok (.iconst (-1), 1) := by decide +kernel
theorem dX4_set_67 : decode cX4_set 67 = .ok (.ixor, 1) := by decide +kernel
theorem dX4_set_68 : decode cX4_set 68 = .ok (.iand, 1) := by decide +kernel
theorem dX4_set_69 : decode cX4_set 69 = .ok (.iastore, 1) := by decide +kernel
theorem dX4_set_70 : decode cX4_set 70 = .ok (.aload_n 0, 1) := by decide +kernel
theorem dX4_set_71 : decode cX4_set 71 = .ok (.dup, 1) := by decide +kernel
theorem dX4_set_72 : decode cX4_set 72 = .ok (.getfield 19, 3) := by decide +kernel
theorem dX4_set_75 : decode cX4_set 75 = .ok (.iconst 1, 1) := by decide +kernel
theorem dX4_set_76 : decode cX4_set 76 = .ok (.iadd, 1) := by decide +kernel
theorem dX4_set_77 : decode cX4_set 77 = .ok (.putfield 19, 3) := by decide +kernel
theorem dX4_set_80 : decode cX4_set 80 = .ok (.return_, 1) := by decide +kernel
set_option maxRecDepth 20000 in
theorem ggX4_joinAll_X11_in : GoodIn wsX4_joinAll wsX11_in := goodIn_r _ [6] (by decide +kernel) (by decide +kernel)
set_option maxRecDepth 20000 in
theorem gX4_joinAll_X11_in_n22 : GoodIn wsX4_joinAll (wsX11_in) := ggX4_joinAll_X11_in
theorem dX4_joinAll_0 : decode cX4_joinAll 0 = .ok (.iconst 0, 1) := by decide +kernel
theorem dX4_joinAll_1 : decode cX4_joinAll 1 = .ok (.istore_n 2, 1) := by decide +kernel
theorem dX4_joinAll_2 : decode cX4_joinAll 2 = .ok (.iload_n 2, 1) := by decide +kernel
theorem dX4_joinAll_3 : decode cX4_joinAll 3 = .ok (.aload_n 0, 1) := by decide +kernel
theorem dX4_joinAll_4 : decode cX4_joinAll 4 = .ok (.getfield 15, 3) := by decide +kernel
theorem dX4_joinAll_7 : decode cX4_joinAll 7 = .ok (.if_icmp .ge 33, 3) := by decide +kernel
theorem dX4_joinAll_10 : decode cX4_joinAll 10 = .ok (.iload_n 1, 1) := by decide +kernel
theorem dX4_joinAll_11 : decode cX4_joinAll 11 = .ok (.iload_n 2, 1) := by decide +kernel
theorem dX4_joinAll_12 : decode cX4_joinAll 12 = .ok (.invokestatic 22, 3) := by decide +kernel
theorem dX4_joinAll_15 : decode cX4_joinAll 15 = .ok (.ifCond .eq 19, 3) := by decide +kernel
theorem dX4_joinAll_18 : decode cX4_joinAll 18 = .ok (.aload_n 0, 1) := by decide +kernel
theorem dX4_joinAll_19 : decode cX4_joinAll 19 = .ok (.getfield 9, 3) := by decide +kernel
theorem dX4_joinAll_22 : decode cX4_joinAll 22 = .ok (.iload_n 2, 1) := by decide +kernel
theorem dX4_joinAll_23 : decode cX4_joinAll 23 = .ok (.dup2, 1) := by decide +kernel
theorem dX4_joinAll_24 : decode cX4_joinAll 24 = .ok (.iaload, 1) := by decide +kernel
theorem dX4_joinAll_25 : decode cX4_joinAll 25 = .ok (.iload_n 1, 1) := by decide +kernel
theorem dX4_joinAll_26 : decode cX4_joinAll 26 = .ok (.iconst 1, 1) := by decide +kernel
theorem dX4_joinAll_27 : decode cX4_joinAll 27 = .ok (.iload_n 2, 1) := by decide +kernel
theorem dX4_joinAll_28 : decode cX4_joinAll 28 = .ok (.ishl, 1) := by decide +kernel
theorem dX4_joinAll_29 : decode cX4_joinAll 29 = .ok (.iconst (-1), 1) := by decide +kernel
theorem dX4_joinAll_30 : decode cX4_joinAll 30 = .ok (.ixor, 1) := by decide +kernel
theorem dX4_joinAll_31 : decode cX4_joinAll 31 = .ok (.iand, 1) := by decide +kernel
theorem dX4_joinAll_32 : decode cX4_joinAll 32 = .ok (.ior, 1) := by decide +kernel
theorem dX4_joinAll_33 : decode cX4_joinAll 33 = .ok (.iastore, 1) := by decide +kernel
theorem dX4_joinAll_34 : decode cX4_joinAll 34 = .ok (.iinc 2 1, 3) := by decide +kernel
theorem dX4_joinAll_37 : decode cX4_joinAll 37 = .ok (.goto (-35), 3) := by decide +kernel
theorem dX4_joinAll_40 : decode cX4_joinAll 40 = .ok (.aload_n 0, 1) := by decide +kernel
theorem dX4_joinAll_41 : decode cX4_joinAll 41 = .ok (.dup, 1) := by decide +kernel
theorem dX4_joinAll_42 : decode cX4_joinAll 42 = .ok (.getfield 19, 3) := by decide +kernel
theorem dX4_joinAll_45 : decode cX4_joinAll 45 = .ok (.iconst 1, 1) := by decide +kernel
theorem dX4_joinAll_46 : decode cX4_joinAll 46 = .ok (.iadd, 1) := by decide +kernel
theorem dX4_joinAll_47 : decode cX4_joinAll 47 = .ok (.putfield 19, 3) := by decide +kernel
theorem dX4_joinAll_50 : decode cX4_joinAll 50 = .ok (.return_, 1) := by decide +kernel
set_option maxRecDepth 20000 in
theorem ggX4_invert_X4_all : GoodIn wsX4_invert wsX4_all := goodIn_r _ [8, 1, 9, 10, 11] (by decide +kernel) (by decide +kernel)
set_option maxRecDepth 20000 in
theorem gX4_invert_X4_all : GoodIn wsX4_invert (wsV RX4 32 RX4 yX4_all wsX4_all) := goodIn_app (goodIn_of _ (by decide +kernel)) ggX4_invert_X4_all
theorem dX4_invert_0 : decode cX4_invert 0 = .ok (.iconst 0, 1) := by decide +kernel
theorem dX4_invert_1 : decode cX4_invert 1 = .ok (.istore_n 1, 1) := by decide +kernel
theorem dX4_invert_2 : decode cX4_invert 2 = .ok (.iload_n 1, 1) := by decide +kernel
theorem dX4_invert_3 : decode cX4_invert 3 = .ok (.aload_n 0, 1) := by decide +kernel
theorem dX4_invert_4 : decode cX4_invert 4 = .ok (.getfield 15, 3) := by decide +kernel
theorem dX4_invert_7 : decode cX4_invert 7 = .ok (.if_icmp .ge 34, 3) := by decide +kernel
theorem dX4_invert_10 : decode cX4_invert 10 = .ok (.aload_n 0, 1) := by decide +kernel
theorem dX4_invert_11 : decode cX4_invert 11 = .ok (.getfield 9, 3) := by decide +kernel
theorem dX4_invert_14 : decode cX4_invert 14 = .ok (.iload_n 1, 1) := by decide +kernel
theorem dX4_invert_15 : decode cX4_invert 15 = .ok (.aload_n 0, 1) := by decide +kernel
theorem dX4_invert_16 : decode cX4_invert 16 = .ok (.invokevirtual 32, 3) := by decide +kernel
theorem dX4_invert_19 : decode cX4_invert 19 = .ok (.aload_n 0, 1) := by decide +kernel
theorem dX4_invert_20 : decode cX4_invert 20 = .ok (.getfield 9, 3) := by decide +kernel
theorem dX4_invert_23 : decode cX4_invert 23 = .ok (.iload_n 1, 1) := by decide +kernel
theorem dX4_invert_24 : decode cX4_invert 24 = .ok (.iaload, 1) := by decide +kernel
theorem dX4_invert_25 : decode cX4_invert 25 = .ok (.iconst (-1), 1) := by decide +kernel
theorem dX4_invert_26 : decode cX4_invert 26 = .ok (.ixor, 1) := by decide +kernel
theorem dX4_invert_27 : decode cX4_invert 27 = .ok (.iand, 1) := by decide +kernel
theorem dX4_invert_28 : decode cX4_invert 28 = .ok (.iconst 1, 1) := by decide +kernel
theorem dX4_invert_29 : decode cX4_invert 29 = .ok (.iload_n 1, 1) := by decide +kernel
theorem dX4_invert_30 : decode cX4_invert 30 = .ok (.ishl, 1) := by decide +kernel
theorem dX4_invert_31 : decode cX4_invert 31 = .ok (.iconst (-1), 1) := by decide +kernel
theorem dX4_invert_32 : decode cX4_invert 32 = .ok (.ixor, 1) := by decide +kernel
theorem dX4_invert_33 : decode cX4_invert 33 = .ok (.iand, 1) := by decide +kernel
theorem dX4_invert_34 : decode cX4_invert 34 = .ok (.iastore, 1) := by decide +kernel
theorem dX4_invert_35 : decode cX4_invert 35 = .ok (.iinc 1 1, 3) := by decide +kernel
theorem dX4_invert_38 : decode cX4_invert 38 = .ok (.goto (-36), 3) := by decide +kernel
theorem dX4_invert_41 : decode cX4_invert 41 = .ok (.aload_n 0, 1) := by decide +kernel
theorem dX4_invert_42 : decode cX4_invert 42 = .ok (.dup, 1) := by decide +kernel
theorem dX4_invert_43 : decode cX4_invert 43 = .ok (.getfield 19, 3) := by decide +kernel
theorem dX4_invert_46 : decode cX4_invert 46 = .ok (.iconst 1, 1) := by decide +kernel
theorem dX4_invert_47 : decode cX4_invert 47 = .ok (.iadd, 1) := by decide +kernel
theorem dX4_invert_48 : decode cX4_invert 48 = .ok (.putfield 19, 3) := by decide +kernel
theorem dX4_invert_51 : decode cX4_invert 51 = .ok (.return_, 1) := by decide +kernel
set_option maxRecDepth 20000 in
theorem ggX4_pairs_J6_bitCount_0f7a4 : GoodIn wsX4_pairs wsJ6_bitCount_0f7a4 := goodIn_r _ [6, 7, 8, 9] (by decide +kernel) (by decide +kernel)
set_option maxRecDepth 20000 in
theorem gX4_pairs_J6_bitCount_0f7a4 : GoodIn wsX4_pairs (va_wsS RX4 36 yJ6_bitCount_0f7a4 wsJ6_bitCount_0f7a4) := goodIn_app (goodIn_of _ (by decide +kernel)) ggX4_pairs_J6_bitCount_0f7a4
theorem dX4_pairs_0 : decode cX4_pairs 0 = .ok (.iconst 0, 1) := by decide +kernel
theorem dX4_pairs_1 : decode cX4_pairs 1 = .ok (.istore_n 1, 1) := by decide +kernel
theorem dX4_pairs_2 : decode cX4_pairs 2 = .ok (.iconst 0, 1) := by decide +kernel
theorem dX4_pairs_3 : decode cX4_pairs 3 = .ok (.istore_n 2, 1) := by decide +kernel
theorem dX4_pairs_4 : decode cX4_pairs 4 = .ok (.iload_n 2, 1) := by decide +kernel
theorem dX4_pairs_5 : decode cX4_pairs 5 = .ok (.aload_n 0, 1) := by decide +kernel
theorem dX4_pairs_6 : decode cX4_pairs 6 = .ok (.getfield 15, 3) := by decide +kernel
theorem dX4_pairs_9 : decode cX4_pairs 9 = .ok (.if_icmp .ge 21, 3) := by decide +kernel
theorem dX4_pairs_12 : decode cX4_pairs 12 = .ok (.iload_n 1, 1) := by decide +kernel
theorem dX4_pairs_13 : decode cX4_pairs 13 = .ok (.aload_n 0, 1) := by decide +kernel
theorem dX4_pairs_14 : decode cX4_pairs 14 = .ok (.getfield 9, 3) := by decide +kernel
theorem dX4_pairs_17 : decode cX4_pairs 17 = .ok (.iload_n 2, 1) := by decide +kernel
theorem dX4_pairs_18 : decode cX4_pairs 18 = .ok (.iaload, 1) := by decide +kernel
theorem dX4_pairs_19 : decode cX4_pairs 19 = .ok (.invokestatic 36, 3) := by decide +kernel
theorem dX4_pairs_22 : decode cX4_pairs 22 = .ok (.iadd, 1) := by decide +kernel
theorem dX4_pairs_23 : decode cX4_pairs 23 = .ok (.istore_n 1, 1) := by decide +kernel
theorem dX4_pairs_24 : decode cX4_pairs 24 = .ok (.iinc 2 1, 3) := by decide +kernel
theorem dX4_pairs_27 : decode cX4_pairs 27 = .ok (.goto (-23), 3) := by decide +kernel
theorem dX4_pairs_30 : decode cX4_pairs 30 = .ok (.iload_n 1, 1) := by decide +kernel
theorem dX4_pairs_31 : decode cX4_pairs 31 = .ok (.iconst 2, 1) := by decide +kernel
theorem dX4_pairs_32 : decode cX4_pairs 32 = .ok (.idiv, 1) := by decide +kernel
theorem dX4_pairs_33 : decode cX4_pairs 33 = .ok (.ireturn, 1) := by decide +kernel
set_option maxRecDepth 20000 in
theorem ggX4_isClique_X11_in : GoodIn wsX4_isClique wsX11_in := goodIn_r _ [5] (by decide +kernel) (by decide +kernel)
set_option maxRecDepth 20000 in
theorem gX4_isClique_X11_in_n22 : GoodIn wsX4_isClique (wsX11_in) := ggX4_isClique_X11_in
theorem dX4_isClique_0 : decode cX4_isClique 0 = .ok (.iconst 0, 1) := by decide +kernel
theorem dX4_isClique_1 : decode cX4_isClique 1 = .ok (.istore_n 2, 1) := by decide +kernel
theorem dX4_isClique_2 : decode cX4_isClique 2 = .ok (.iload_n 2, 1) := by decide +kernel
theorem dX4_isClique_3 : decode cX4_isClique 3 = .ok (.aload_n 0, 1) := by decide +kernel
theorem dX4_isClique_4 : decode cX4_isClique 4 = .ok (.getfield 15, 3) := by decide +kernel
theorem dX4_isClique_7 : decode cX4_isClique 7 = .ok (.if_icmp .ge 35, 3) := by decide +kernel
theorem dX4_isClique_10 : decode cX4_isClique 10 = .ok (.iload_n 1, 1) := by decide +kernel
theorem dX4_isClique_11 : decode cX4_isClique 11 = .ok (.iload_n 2, 1) := by decide +kernel
theorem dX4_isClique_12 : decode cX4_isClique 12 = .ok (.invokestatic 22, 3) := by decide +kernel
theorem dX4_isClique_15 : decode cX4_isClique 15 = .ok (.ifCond .eq 21, 3) := by decide +kernel
theorem dX4_isClique_18 : decode cX4_isClique 18 = .ok (.iload_n 1, 1) := by decide +kernel
theorem dX4_isClique_19 : decode cX4_isClique 19 = .ok (.aload_n 0, 1) := by decide +kernel
theorem dX4_isClique_20 : decode cX4_isClique 20 = .ok (.getfield 9, 3) := by decide +kernel
theorem dX4_isClique_23 : decode cX4_isClique 23 = .ok (.iload_n 2, 1) := by decide +kernel
theorem dX4_isClique_24 : decode cX4_isClique 24 = .ok (.iaload, 1) := by decide +kernel
theorem dX4_isClique_25 : decode cX4_isClique 25 = .ok (.iconst (-1), 1) := by decide +kernel
theorem dX4_isClique_26 : decode cX4_isClique 26 = .ok (.ixor, 1) := by decide +kernel
theorem dX4_isClique_27 : decode cX4_isClique 27 = .ok (.iand, 1) := by decide +kernel
theorem dX4_isClique_28 : decode cX4_isClique 28 = .ok (.iconst 1, 1) := by decide +kernel
theorem dX4_isClique_29 : decode cX4_isClique 29 = .ok (.iload_n 2, 1) := by decide +kernel
theorem dX4_isClique_30 : decode cX4_isClique 30 = .ok (.ishl, 1) := by decide +kernel
theorem dX4_isClique_31 : decode cX4_isClique 31 = .ok (.if_icmp .eq 5, 3) := by decide +kernel
theorem dX4_isClique_34 : decode cX4_isClique 34 = .ok (.iconst 0, 1) := by decide +kernel
theorem dX4_isClique_35 : decode cX4_isClique 35 = .ok (.ireturn, 1) := by decide +kernel
theorem dX4_isClique_36 : decode cX4_isClique 36 = .ok (.iinc 2 1, 3) := by decide +kernel
theorem dX4_isClique_39 : decode cX4_isClique 39 = .ok (.goto (-37), 3) := by decide +kernel
theorem dX4_isClique_42 : decode cX4_isClique 42 = .ok (.iconst 1, 1) := by decide +kernel
theorem dX4_isClique_43 : decode cX4_isClique 43 = .ok (.ireturn, 1) := by decide +kernel
set_option maxRecDepth 20000 in
theorem ggX4_isLoose_X11_in : GoodIn wsX4_isLoose wsX11_in := goodIn_r _ [5] (by decide +kernel) (by decide +kernel)
set_option maxRecDepth 20000 in
theorem gX4_isLoose_X11_in_n22 : GoodIn wsX4_isLoose (wsX11_in) := ggX4_isLoose_X11_in
theorem dX4_isLoose_0 : decode cX4_isLoose 0 = .ok (.iconst 0, 1) := by decide +kernel
theorem dX4_isLoose_1 : decode cX4_isLoose 1 = .ok (.istore_n 2, 1) := by decide +kernel
theorem dX4_isLoose_2 : decode cX4_isLoose 2 = .ok (.iload_n 2, 1) := by decide +kernel
theorem dX4_isLoose_3 : decode cX4_isLoose 3 = .ok (.aload_n 0, 1) := by decide +kernel
theorem dX4_isLoose_4 : decode cX4_isLoose 4 = .ok (.getfield 15, 3) := by decide +kernel
theorem dX4_isLoose_7 : decode cX4_isLoose 7 = .ok (.if_icmp .ge 30, 3) := by decide +kernel
theorem dX4_isLoose_10 : decode cX4_isLoose 10 = .ok (.iload_n 1, 1) := by decide +kernel
theorem dX4_isLoose_11 : decode cX4_isLoose 11 = .ok (.iload_n 2, 1) := by decide +kernel
theorem dX4_isLoose_12 : decode cX4_isLoose 12 = .ok (.invokestatic 22, 3) := by decide +kernel
theorem dX4_isLoose_15 : decode cX4_isLoose 15 = .ok (.ifCond .eq 16, 3) := by decide +kernel
theorem dX4_isLoose_18 : decode cX4_isLoose 18 = .ok (.iload_n 1, 1) := by decide +kernel
theorem dX4_isLoose_19 : decode cX4_isLoose 19 = .ok (.aload_n 0, 1) := by decide +kernel
theorem dX4_isLoose_20 : decode cX4_isLoose 20 = .ok (.getfield 9, 3) := by decide +kernel
theorem dX4_isLoose_23 : decode cX4_isLoose 23 = .ok (.iload_n 2, 1) := by decide +kernel
theorem dX4_isLoose_24 : decode cX4_isLoose 24 = .ok (.iaload, 1) := by decide +kernel
theorem dX4_isLoose_25 : decode cX4_isLoose 25 = .ok (.iand, 1) := by decide +kernel
theorem dX4_isLoose_26 : decode cX4_isLoose 26 = .ok (.ifCond .eq 5, 3) := by decide +kernel
theorem dX4_isLoose_29 : decode cX4_isLoose 29 = .ok (.iconst 0, 1) := by decide +kernel
theorem dX4_isLoose_30 : decode cX4_isLoose 30 = .ok (.ireturn, 1) := by decide +kernel
theorem dX4_isLoose_31 : decode cX4_isLoose 31 = .ok (.iinc 2 1, 3) := by decide +kernel
theorem dX4_isLoose_34 : decode cX4_isLoose 34 = .ok (.goto (-32), 3) := by decide +kernel
theorem dX4_isLoose_37 : decode cX4_isLoose 37 = .ok (.iconst 1, 1) := by decide +kernel
theorem dX4_isLoose_38 : decode cX4_isLoose 38 = .ok (.ireturn, 1) := by decide +kernel
set_option maxRecDepth 20000 in
theorem ggX4_around_J6_numberOfTrailingZeros_0f7a4 : GoodIn wsX4_around wsJ6_numberOfTrailingZeros_0f7a4 := goodIn_r _ [6, 7] (by decide +kernel) (by decide +kernel)
set_option maxRecDepth 20000 in
theorem gX4_around_J6_numberOfTrailingZeros_0f7a4 : GoodIn wsX4_around (va_wsS RX4 42 yJ6_numberOfTrailingZeros_0f7a4 wsJ6_numberOfTrailingZeros_0f7a4) := goodIn_app (goodIn_of _ (by decide +kernel)) ggX4_around_J6_numberOfTrailingZeros_0f7a4
set_option maxRecDepth 20000 in
theorem ggX4_around_X11_withoutLeast : GoodIn wsX4_around wsX11_withoutLeast := goodIn_r _ [10] (by decide +kernel) (by decide +kernel)
set_option maxRecDepth 20000 in
theorem gX4_around_X11_withoutLeast_n45 : GoodIn wsX4_around (wsX11_withoutLeast) := ggX4_around_X11_withoutLeast
theorem dX4_around_0 : decode cX4_around 0 = .ok (.iconst 0, 1) := by decide +kernel
theorem dX4_around_1 : decode cX4_around 1 = .ok (.istore_n 2, 1) := by decide +kernel
theorem dX4_around_2 : decode cX4_around 2 = .ok (.iload_n 1, 1) := by decide +kernel
theorem dX4_around_3 : decode cX4_around 3 = .ok (.istore_n 3, 1) := by decide +kernel
theorem dX4_around_4 : decode cX4_around 4 = .ok (.iconst 0, 1) := by decide +kernel
theorem dX4_around_5 : decode cX4_around 5 = .ok (.istore 4, 2) := by decide +kernel
theorem dX4_around_7 : decode cX4_around 7 = .ok (.iload 4, 2) := by decide +kernel
theorem dX4_around_9 : decode cX4_around 9 = .ok (.aload_n 0, 1) := by decide +kernel
theorem dX4_around_10 : decode cX4_around 10 = .ok (.getfield 15, 3) := by decide +kernel
theorem dX4_around_13 : decode cX4_around 13 = .ok (.if_icmp .ge 30, 3) := by decide +kernel
theorem dX4_around_16 : decode cX4_around 16 = .ok (.iload_n 3, 1) := by decide +kernel
theorem dX4_around_17 : decode cX4_around 17 = .ok (.ifCond .eq 26, 3) := by decide +kernel
theorem dX4_around_20 : decode cX4_around 20 = .ok (.iload_n 2, 1) := by decide +kernel
theorem dX4_around_21 : decode cX4_around 21 = .ok (.aload_n 0, 1) := by decide +kernel
theorem dX4_around_22 : decode cX4_around 22 = .ok (.getfield 9, 3) := by decide +kernel
theorem dX4_around_25 : decode cX4_around 25 = .ok (.iload_n 3, 1) := by decide +kernel
theorem dX4_around_26 : decode cX4_around 26 = .ok (.invokestatic 42, 3) := by decide +kernel
theorem dX4_around_29 : decode cX4_around 29 = .ok (.iaload, 1) := by decide +kernel
theorem dX4_around_30 : decode cX4_around 30 = .ok (.ior, 1) := by decide +kernel
theorem dX4_around_31 : decode cX4_around 31 = .ok (.istore_n 2, 1) := by decide +kernel
theorem dX4_around_32 : decode cX4_around 32 = .ok (.iload_n 3, 1) := by decide +kernel
theorem dX4_around_33 : decode cX4_around 33 = .ok (.invokestatic 45, 3) := by decide +kernel
theorem dX4_around_36 : decode cX4_around 36 = .ok (.istore_n 3, 1) := by decide +kernel
theorem dX4_around_37 : decode cX4_around 37 = .ok (.iinc 4 1, 3) := by decide +kernel
theorem dX4_around_40 : decode cX4_around 40 = .ok (.goto (-33), 3) := by decide +kernel
theorem dX4_around_43 : decode cX4_around 43 = .ok (.iload_n 2, 1) := by decide +kernel
theorem dX4_around_44 : decode cX4_around 44 = .ok (.iload_n 1, 1) := by decide +kernel
theorem dX4_around_45 : decode cX4_around 45 = .ok (.iconst (-1), 1) := by decide +kernel
theorem dX4_around_46 : decode cX4_around 46 = .ok (.ixor, 1) := by decide +kernel
theorem dX4_around_47 : decode cX4_around 47 = .ok (.iand, 1) := by decide +kernel
theorem dX4_around_48 : decode cX4_around 48 = .ok (.ireturn, 1) := by decide +kernel
set_option maxRecDepth 20000 in
theorem ggX4_reach_X11_reached : GoodIn wsX4_reach wsX11_reached := goodIn_r _ [4, 5, 6, 7, 8, 9, 10, 11, 3, 12] (by decide +kernel) (by decide +kernel)
set_option maxRecDepth 20000 in
theorem gX4_reach_X11_reached_n48 : GoodIn wsX4_reach (wsX11_reached) := ggX4_reach_X11_reached
theorem dX4_reach_0 : decode cX4_reach 0 = .ok (.aload_n 0, 1) := by decide +kernel
theorem dX4_reach_1 : decode cX4_reach 1 = .ok (.getfield 9, 3) := by decide +kernel
theorem dX4_reach_4 : decode cX4_reach 4 = .ok (.iload_n 1, 1) := by decide +kernel
theorem dX4_reach_5 : decode cX4_reach 5 = .ok (.iload_n 2, 1) := by decide +kernel
theorem dX4_reach_6 : decode cX4_reach 6 = .ok (.invokestatic 48, 3) := by decide +kernel
theorem dX4_reach_9 : decode cX4_reach 9 = .ok (.ireturn, 1) := by decide +kernel
set_option maxRecDepth 20000 in
theorem ggX5_init_X3_init : GoodIn wsX5_init wsX3_init := goodIn_r _ [16, 17, 2, 3, 18, 8, 19, 20, 21, 22] (by decide +kernel) (by decide +kernel)
set_option maxRecDepth 20000 in
theorem gX5_init_X3_init_n11 : GoodIn wsX5_init (wsX3_init) := ggX5_init_X3_init
theorem dX5_init_0 : decode cX5_init 0 = .ok (.aload_n 0, 1) := by decide +kernel
theorem dX5_init_1 : decode cX5_init 1 = .ok (.invokespecial 3, 3) := by decide +kernel
theorem dX5_init_4 : decode cX5_init 4 = .ok (.aload_n 0, 1) := by decide +kernel
theorem dX5_init_5 : decode cX5_init 5 = .ok (.new 9, 3) := by decide +kernel
theorem dX5_init_8 : decode cX5_init 8 = .ok (.dup, 1) := by decide +kernel
theorem dX5_init_9 : decode cX5_init 9 = .ok (.invokespecial 11, 3) := by decide +kernel
theorem dX5_init_12 : decode cX5_init 12 = .ok (.putfield 12, 3) := by decide +kernel
theorem dX5_init_15 : decode cX5_init 15 = .ok (.aload_n 0, 1) := by decide +kernel
theorem dX5_init_16 : decode cX5_init 16 = .ok (.sipush 4096, 3) := by decide +kernel
theorem dX5_init_19 : decode cX5_init 19 = .ok (.newarray .int, 2) := by decide +kernel
theorem dX5_init_21 : decode cX5_init 21 = .ok (.putfield 18, 3) := by decide +kernel
theorem dX5_init_24 : decode cX5_init 24 = .ok (.aload_n 0, 1) := by decide +kernel
theorem dX5_init_25 : decode cX5_init 25 = .ok (.bipush 12, 2) := by decide +kernel
theorem dX5_init_27 : decode cX5_init 27 = .ok (.bipush 12, 2) := by decide +kernel
theorem dX5_init_29 : decode cX5_init 29 = .ok (.multianewarray 22 2, 4) := by decide +kernel
theorem dX5_init_33 : decode cX5_init 33 = .ok (.putfield 24, 3) := by decide +kernel
theorem dX5_init_36 : decode cX5_init 36 = .ok (.aload_n 0, 1) := by decide +kernel
theorem dX5_init_37 : decode cX5_init 37 = .ok (.iconst 0, 1) := by decide +kernel
theorem dX5_init_38 : decode cX5_init 38 = .ok (.putfield 27, 3) := by decide +kernel
theorem dX5_init_41 : decode cX5_init 41 = .ok (.aload_n 0, 1) := by decide +kernel
theorem dX5_init_42 : decode cX5_init 42 = .ok (.iconst 0, 1) := by decide +kernel
theorem dX5_init_43 : decode cX5_init 43 = .ok (.putfield 31, 3) := by decide +kernel
theorem dX5_init_46 : decode cX5_init 46 = .ok (.aload_n 0, 1) := by decide +kernel
theorem dX5_init_47 : decode cX5_init 47 = .ok (.iconst 0, 1) := by decide +kernel
theorem dX5_init_48 : decode cX5_init 48 = .ok (.putfield 34, 3) := by decide +kernel
theorem dX5_init_51 : decode cX5_init 51 = .ok (.return_, 1) := by decide +kernel
set_option maxRecDepth 20000 in
theorem ggX5_begin_X3_start : GoodIn wsX5_begin wsX3_start := goodIn_r _ [9, 10, 11, 12, 13, 14, 15, 102, 103, 104, 105, 106] (by decide +kernel) (by decide +kernel)
set_option maxRecDepth 20000 in
theorem gX5_begin_X3_start_n37 : GoodIn wsX5_begin (wsX3_start) := ggX5_begin_X3_start
set_option maxRecDepth 20000 in
theorem ggX5_begin_X4_all : GoodIn wsX5_begin wsX4_all := goodIn_r _ [19, 20, 102, 103, 104] (by decide +kernel) (by decide +kernel)
set_option maxRecDepth 20000 in
theorem gX5_begin_X4_all_n41 : GoodIn wsX5_begin (wsX4_all) := ggX5_begin_X4_all
set_option maxRecDepth 20000 in
theorem ggX5_begin_J7_fill_fda19 : GoodIn wsX5_begin wsJ7_fill_fda19 := goodIn_r _ [24, 25, 26, 23, 27] (by decide +kernel) (by decide +kernel)
set_option maxRecDepth 20000 in
theorem gX5_begin_J7_fill_fda19 : GoodIn wsX5_begin (va_wsS RX5 47 yJ7_fill_fda19 wsJ7_fill_fda19) := goodIn_app (goodIn_of _ (by decide +kernel)) ggX5_begin_J7_fill_fda19
set_option maxRecDepth 20000 in
theorem ggX5_begin_X5_leastFrom : GoodIn wsX5_begin wsX5_leastFrom := goodIn_r _ [31, 4, 5, 3, 32, 1, 33, 34, 35, 36, 37, 38, 39, 30, 40, 2, 41, 42, 43, 44, 7, 45, 46, 47, 48, 49, 50, 11, 10, 51, 52, 53, 54, 55, 56, 57, 58, 59, 60, 61, 62, 63, 64, 65, 66, 67, 68, 69, 70, 71, 72, 73, 74, 75, 76, 77, 78, 79, 80, 81, 82, 83, 84, 85, 86, 87, 88, 12, 13, 14, 15, 28, 29, 89, 90, 91, 92, 93, 94, 95, 96, 97, 98, 99, 100, 101, 105, 106] (by decide +kernel) (by decide +kernel)
set_option maxRecDepth 20000 in
theorem gX5_begin_X5_leastFrom : GoodIn wsX5_begin (va_wsS RX5 53 yX5_leastFrom wsX5_leastFrom) := goodIn_app (goodIn_of _ (by decide +kernel)) ggX5_begin_X5_leastFrom
theorem dX5_begin_0 : decode cX5_begin 0 = .ok (.aload_n 0, 1) := by decide +kernel
theorem dX5_begin_1 : decode cX5_begin 1 = .ok (.getfield 12, 3) := by decide +kernel
theorem dX5_begin_4 : decode cX5_begin 4 = .ok (.aload_n 1, 1) := by decide +kernel
theorem dX5_begin_5 : decode cX5_begin 5 = .ok (.invokevirtual 37, 3) := by decide +kernel
theorem dX5_begin_8 : decode cX5_begin 8 = .ok (.aload_n 0, 1) := by decide +kernel
theorem dX5_begin_9 : decode cX5_begin 9 = .ok (.iload_n 2, 1) := by decide +kernel
theorem dX5_begin_10 : decode cX5_begin 10 = .ok (.ifCond .ne 7, 3) := by decide +kernel
theorem dX5_begin_13 : decode cX5_begin 13 = .ok (.iconst 2, 1) := by decide +kernel
theorem dX5_begin_14 : decode cX5_begin 14 = .ok (.goto 4, 3) := by decide +kernel
theorem dX5_begin_17 : decode cX5_begin 17 = .ok (.iconst 1, 1) := by decide +kernel
theorem dX5_begin_18 : decode cX5_begin 18 = .ok (.putfield 27, 3) := by decide +kernel
theorem dX5_begin_21 : decode cX5_begin 21 = .ok (.aload_n 0, 1) := by decide +kernel
theorem dX5_begin_22 : decode cX5_begin 22 = .ok (.aload_n 1, 1) := by decide +kernel
theorem dX5_begin_23 : decode cX5_begin 23 = .ok (.invokevirtual 41, 3) := by decide +kernel
theorem dX5_begin_26 : decode cX5_begin 26 = .ok (.putfield 31, 3) := by decide +kernel
theorem dX5_begin_29 : decode cX5_begin 29 = .ok (.aload_n 0, 1) := by decide +kernel
theorem dX5_begin_30 : decode cX5_begin 30 = .ok (.aload_n 1, 1) := by decide +kernel
theorem dX5_begin_31 : decode cX5_begin 31 = .ok (.getfield 46, 3) := by decide +kernel
theorem dX5_begin_34 : decode cX5_begin 34 = .ok (.putfield 34, 3) := by decide +kernel
theorem dX5_begin_37 : decode cX5_begin 37 = .ok (.aload_n 0, 1) := by decide +kernel
theorem dX5_begin_38 : decode cX5_begin 38 = .ok (.getfield 18, 3) := by decide +kernel
theorem dX5_begin_41 : decode cX5_begin 41 = .ok (.iconst 0, 1) := by decide +kernel
theorem dX5_begin_42 : decode cX5_begin 42 = .ok (.aload_n 0, 1) := by decide +kernel
theorem dX5_begin_43 : decode cX5_begin 43 = .ok (.getfield 31, 3) := by decide +kernel
theorem dX5_begin_46 : decode cX5_begin 46 = .ok (.iconst 1, 1) := by decide +kernel
theorem dX5_begin_47 : decode cX5_begin 47 = .ok (.iadd, 1) := by decide +kernel
theorem dX5_begin_48 : decode cX5_begin 48 = .ok (.iconst (-1), 1) := by decide +kernel
theorem dX5_begin_49 : decode cX5_begin 49 = .ok (.invokestatic 47, 3) := by decide +kernel
theorem dX5_begin_52 : decode cX5_begin 52 = .ok (.aload_n 0, 1) := by decide +kernel
theorem dX5_begin_53 : decode cX5_begin 53 = .ok (.getfield 18, 3) := by decide +kernel
theorem dX5_begin_56 : decode cX5_begin 56 = .ok (.aload_n 0, 1) := by decide +kernel
theorem dX5_begin_57 : decode cX5_begin 57 = .ok (.getfield 31, 3) := by decide +kernel
theorem dX5_begin_60 : decode cX5_begin 60 = .ok (.iconst 0, 1) := by decide +kernel
theorem dX5_begin_61 : decode cX5_begin 61 = .ok (.iastore, 1) := by decide +kernel
theorem dX5_begin_62 : decode cX5_begin 62 = .ok (.aload_n 0, 1) := by decide +kernel
theorem dX5_begin_63 : decode cX5_begin 63 = .ok (.iconst 0, 1) := by decide +kernel
theorem dX5_begin_64 : decode cX5_begin 64 = .ok (.iconst 0, 1) := by decide +kernel
theorem dX5_begin_65 : decode cX5_begin 65 = .ok (.invokestatic 53, 3) := by decide +kernel
theorem dX5_begin_68 : decode cX5_begin 68 = .ok (.ireturn, 1) := by decide +kernel
set_option maxRecDepth 20000 in
theorem ggX5_letFirstGo_X11_in : GoodIn wsX5_letFirstGo wsX11_in := goodIn_r _ [6] (by decide +kernel) (by decide +kernel)
set_option maxRecDepth 20000 in
theorem gX5_letFirstGo_X11_in_n57 : GoodIn wsX5_letFirstGo (wsX11_in) := ggX5_letFirstGo_X11_in
set_option maxRecDepth 20000 in
theorem ggX5_letFirstGo_X3_price : GoodIn wsX5_letFirstGo wsX3_price := goodIn_r _ [10, 11, 12, 13, 8, 14, 15, 16, 17, 18, 19, 20, 21, 22, 5, 23, 24, 25, 26, 27, 28, 29, 30, 31, 32, 33, 34, 35, 36, 37, 87, 88] (by decide +kernel) (by decide +kernel)
set_option maxRecDepth 20000 in
theorem gX5_letFirstGo_X3_price_n61 : GoodIn wsX5_letFirstGo (wsX3_price) := ggX5_letFirstGo_X3_price
set_option maxRecDepth 20000 in
theorem ggX5_letFirstGo_X3_leave : GoodIn wsX5_letFirstGo wsX3_leave := goodIn_r _ [40, 15, 41, 42, 43, 44, 16, 17, 18, 19, 20, 21, 22, 5, 23, 87, 88] (by decide +kernel) (by decide +kernel)
set_option maxRecDepth 20000 in
theorem gX5_letFirstGo_X3_leave_n65 : GoodIn wsX5_letFirstGo (wsX3_leave) := ggX5_letFirstGo_X3_leave
set_option maxRecDepth 20000 in
theorem ggX5_letFirstGo_X5_leastFrom : GoodIn wsX5_letFirstGo wsX5_leastFrom := goodIn_r _ [48, 1, 49, 50, 51, 2, 52, 53, 54, 55, 56, 57, 58, 47, 59, 3, 4, 5, 6, 7, 8, 9, 10, 11, 12, 13, 14, 15, 16, 17, 18, 19, 20, 21, 22, 23, 24, 25, 26, 27, 28, 29, 30, 31, 32, 33, 34, 35, 36, 37, 60, 61, 62, 63, 64, 65, 66, 67, 68, 69, 70, 71, 72, 73, 38, 39, 40, 41, 42, 43, 44, 45, 46, 74, 75, 76, 77, 78, 79, 80, 81, 82, 83, 84, 85, 86, 87, 88] (by decide +kernel) (by decide +kernel)
set_option maxRecDepth 20000 in
theorem gX5_letFirstGo_X5_leastFrom : GoodIn wsX5_letFirstGo (va_wsS RX5 53 yX5_leastFrom wsX5_leastFrom) := goodIn_app (goodIn_of _ (by decide +kernel)) ggX5_letFirstGo_X5_leastFrom
set_option maxRecDepth 20000 in
theorem ggX5_letFirstGo_X5_both : GoodIn wsX5_letFirstGo wsX5_both := goodIn_r _ [77, 3, 78, 79, 54, 80, 81, 82, 83, 84, 85, 86] (by decide +kernel) (by decide +kernel)
set_option maxRecDepth 20000 in
theorem gX5_letFirstGo_X5_both : GoodIn wsX5_letFirstGo (wsV RX5 69 RX5 yX5_both wsX5_both) := goodIn_app (goodIn_of _ (by decide +kernel)) ggX5_letFirstGo_X5_both
theorem dX5_letFirstGo_0 : decode cX5_letFirstGo 0 = .ok (.iconst 0, 1) := by decide +kernel
theorem dX5_letFirstGo_1 : decode cX5_letFirstGo 1 = .ok (.istore 4, 2) := by decide +kernel
theorem dX5_letFirstGo_3 : decode cX5_letFirstGo 3 = .ok (.iload 4, 2) := by decide +kernel
theorem dX5_letFirstGo_5 : decode cX5_letFirstGo 5 = .ok (.aload_n 0, 1) := by decide +kernel
theorem dX5_letFirstGo_6 : decode cX5_letFirstGo 6 = .ok (.getfield 34, 3) := by decide +kernel
theorem dX5_letFirstGo_9 : decode cX5_letFirstGo 9 = .ok (.if_icmp .ge 82, 3) := by decide +kernel
theorem dX5_letFirstGo_12 : decode cX5_letFirstGo 12 = .ok (.iload_n 1, 1) := by decide +kernel
theorem dX5_letFirstGo_13 : decode cX5_letFirstGo 13 = .ok (.iload 4, 2) := by decide +kernel
theorem dX5_letFirstGo_15 : decode cX5_letFirstGo 15 = .ok (.invokestatic 57, 3) := by decide +kernel
theorem dX5_letFirstGo_18 : decode cX5_letFirstGo 18 = .ok (.ifCond .eq 9, 3) := by decide +kernel
theorem dX5_letFirstGo_21 : decode cX5_letFirstGo 21 = .ok (.sipush 1000, 3) := by decide +kernel
theorem dX5_letFirstGo_24 : decode cX5_letFirstGo 24 = .ok (.goto 17, 3) := by decide +kernel
theorem dX5_letFirstGo_27 : decode cX5_letFirstGo 27 = .ok (.aload_n 0, 1) := by decide +kernel
theorem dX5_letFirstGo_28 : decode cX5_letFirstGo 28 = .ok (.getfield 12, 3) := by decide +kernel
theorem dX5_letFirstGo_31 : decode cX5_letFirstGo 31 = .ok (.aload_n 0, 1) := by decide +kernel
theorem dX5_letFirstGo_32 : decode cX5_letFirstGo 32 = .ok (.getfield 27, 3) := by decide +kernel
theorem dX5_letFirstGo_35 : decode cX5_letFirstGo 35 = .ok (.iload_n 2, 1) := by decide +kernel
theorem dX5_letFirstGo_36 : decode cX5_letFirstGo 36 = .ok (.iload 4, 2) := by decide +kernel
theorem dX5_letFirstGo_38 : decode cX5_letFirstGo 38 = .ok (.invokevirtual 61, 3) := by decide +kernel
theorem dX5_letFirstGo_41 : decode cX5_letFirstGo 41 = .ok (.istore 5, 2) := by decide +kernel
theorem dX5_letFirstGo_43 : decode cX5_letFirstGo 43 = .ok (.iload 5, 2) := by decide +kernel
theorem dX5_letFirstGo_45 : decode cX5_letFirstGo 45 = .ok (.iload_n 3, 1) := by decide +kernel
theorem dX5_letFirstGo_46 : decode cX5_letFirstGo 46 = .ok (.if_icmp .gt 39, 3) := by decide +kernel
theorem dX5_letFirstGo_49 : decode cX5_letFirstGo 49 = .ok (.aload_n 0, 1) := by decide +kernel
theorem dX5_letFirstGo_50 : decode cX5_letFirstGo 50 = .ok (.getfield 12, 3) := by decide +kernel
theorem dX5_letFirstGo_53 : decode cX5_letFirstGo 53 = .ok (.iload_n 2, 1) := by decide +kernel
theorem dX5_letFirstGo_54 : decode cX5_letFirstGo 54 = .ok (.iload 4, 2) := by decide +kernel
theorem dX5_letFirstGo_56 : decode cX5_letFirstGo 56 = .ok (.invokevirtual 65, 3) := by decide +kernel
theorem dX5_letFirstGo_59 : decode cX5_letFirstGo 59 = .ok (.aload_n 0, 1) := by decide +kernel
theorem dX5_letFirstGo_60 : decode cX5_letFirstGo 60 = .ok (.iload 5, 2) := by decide +kernel
theorem dX5_letFirstGo_62 : decode cX5_letFirstGo 62 = .ok (.aload_n 0, 1) := by decide +kernel
theorem dX5_letFirstGo_63 : decode cX5_letFirstGo 63 = .ok (.iload_n 1, 1) := by decide +kernel
theorem dX5_letFirstGo_64 : decode cX5_letFirstGo 64 = .ok (.iconst 1, 1) := by decide +kernel
theorem dX5_letFirstGo_65 : decode cX5_letFirstGo 65 = .ok (.iload 4, 2) := by decide +kernel
theorem dX5_letFirstGo_67 : decode cX5_letFirstGo 67 = .ok (.ishl, 1) := by decide +kernel
theorem dX5_letFirstGo_68 : decode cX5_letFirstGo 68 = .ok (.ior, 1) := by decide +kernel
theorem dX5_letFirstGo_69 : decode cX5_letFirstGo 69 = .ok (.iload_n 2, 1) := by decide +kernel
theorem dX5_letFirstGo_70 : decode cX5_letFirstGo 70 = .ok (.iconst 1, 1) := by decide +kernel
theorem dX5_letFirstGo_71 : decode cX5_letFirstGo 71 = .ok (.iadd, 1) := by decide +kernel
theorem dX5_letFirstGo_72 : decode cX5_letFirstGo 72 = .ok (.invokestatic 53, 3) := by decide +kernel
theorem dX5_letFirstGo_75 : decode cX5_letFirstGo 75 = .ok (.invokevirtual 69, 3) := by decide +kernel
theorem dX5_letFirstGo_78 : decode cX5_letFirstGo 78 = .ok (.iload_n 3, 1) := by decide +kernel
theorem dX5_letFirstGo_79 : decode cX5_letFirstGo 79 = .ok (.if_icmp .gt 6, 3) := by decide +kernel
theorem dX5_letFirstGo_82 : decode cX5_letFirstGo 82 = .ok (.iload 4, 2) := by decide +kernel
theorem dX5_letFirstGo_84 : decode cX5_letFirstGo 84 = .ok (.ireturn, 1) := by decide +kernel
theorem dX5_letFirstGo_85 : decode cX5_letFirstGo 85 = .ok (.iinc 4 1, 3) := by decide +kernel
theorem dX5_letFirstGo_88 : decode cX5_letFirstGo 88 = .ok (.goto (-85), 3) := by decide +kernel
theorem dX5_letFirstGo_91 : decode cX5_letFirstGo 91 = .ok (.iconst 0, 1) := by decide +kernel
theorem dX5_letFirstGo_92 : decode cX5_letFirstGo 92 = .ok (.ireturn, 1) := by decide +kernel
theorem dX5_both_0 : decode cX5_both 0 = .ok (.aload_n 0, 1) := by decide +kernel
theorem dX5_both_1 : decode cX5_both 1 = .ok (.getfield 27, 3) := by decide +kernel
theorem dX5_both_4 : decode cX5_both 4 = .ok (.iconst 2, 1) := by decide +kernel
theorem dX5_both_5 : decode cX5_both 5 = .ok (.if_icmp .ne 9, 3) := by decide +kernel
theorem dX5_both_8 : decode cX5_both 8 = .ok (.iload_n 1, 1) := by decide +kernel
theorem dX5_both_9 : decode cX5_both 9 = .ok (.iload_n 2, 1) := by decide +kernel
theorem dX5_both_10 : decode cX5_both 10 = .ok (.iadd, 1) := by decide +kernel
theorem dX5_both_11 : decode cX5_both 11 = .ok (.goto 8, 3) := by decide +kernel
theorem dX5_both_14 : decode cX5_both 14 = .ok (.iload_n 1, 1) := by decide +kernel
theorem dX5_both_15 : decode cX5_both 15 = .ok (.iload_n 2, 1) := by decide +kernel
theorem dX5_both_16 : decode cX5_both 16 = .ok (.invokestatic 73, 3) := by decide +kernel
theorem dX5_both_19 : decode cX5_both 19 = .ok (.ireturn, 1) := by decide +kernel
set_option maxRecDepth 20000 in
theorem ggX5_leastFrom_X5_priceAll : GoodIn wsX5_leastFrom wsX5_priceAll := goodIn_r _ [14, 4, 1, 5, 15, 16, 17, 18, 19, 20, 21, 22, 23, 24, 25, 26, 27, 28, 29, 30, 31, 32, 33, 34, 35, 36, 37, 38, 39, 40, 41, 42, 43, 44, 45, 46, 47, 48, 49, 80, 81, 82, 83, 84, 85, 86, 87] (by decide +kernel) (by decide +kernel)
set_option maxRecDepth 20000 in
theorem gX5_leastFrom_X5_priceAll : GoodIn wsX5_leastFrom (wsV RX5 78 RX5 yX5_priceAll wsX5_priceAll) := goodIn_app (goodIn_of _ (by decide +kernel)) ggX5_leastFrom_X5_priceAll
set_option maxRecDepth 20000 in
theorem ggX5_leastFrom_X5_neverWrong : GoodIn wsX5_leastFrom wsX5_neverWrong := goodIn_r _ [53, 15, 5, 4, 1, 54, 20, 55, 56, 28, 16, 17, 18, 23, 24, 25, 26, 27, 29, 30, 31, 32, 33, 34, 35, 57, 58, 59, 60, 61, 62, 63, 80, 81, 82, 83, 84, 85, 86, 87] (by decide +kernel) (by decide +kernel)
set_option maxRecDepth 20000 in
theorem gX5_leastFrom_X5_neverWrong : GoodIn wsX5_leastFrom (wsV RX5 81 RX5 yX5_neverWrong wsX5_neverWrong) := goodIn_app (goodIn_of _ (by decide +kernel)) ggX5_leastFrom_X5_neverWrong
set_option maxRecDepth 20000 in
theorem ggX5_leastFrom_X3_leave : GoodIn wsX5_leastFrom wsX3_leave := goodIn_r _ [66, 27, 67, 68, 69, 70, 28, 29, 30, 31, 32, 33, 34, 17, 35, 86, 87] (by decide +kernel) (by decide +kernel)
set_option maxRecDepth 20000 in
theorem gX5_leastFrom_X3_leave_n65 : GoodIn wsX5_leastFrom (wsX3_leave) := ggX5_leastFrom_X3_leave
set_option maxRecDepth 20000 in
theorem ggX5_leastFrom_X5_leastFrom : GoodIn wsX5_leastFrom wsX5_leastFrom := goodIn_r _ [0, 1, 2, 3, 4, 5, 6, 7, 8, 9, 10, 11, 12, 13, 14, 15, 16, 17, 18, 19, 20, 21, 22, 23, 24, 25, 26, 27, 28, 29, 30, 31, 32, 33, 34, 35, 36, 37, 38, 39, 40, 41, 42, 43, 44, 45, 46, 47, 48, 49, 50, 51, 52, 53, 54, 55, 56, 57, 58, 59, 60, 61, 62, 63, 64, 65, 66, 67, 68, 69, 70, 71, 72, 73, 74, 75, 76, 77, 78, 79, 80, 81, 82, 83, 84, 85, 86, 87] (by decide +kernel) (by decide +kernel)
set_option maxRecDepth 20000 in
theorem gX5_leastFrom_X5_leastFrom : GoodIn wsX5_leastFrom (va_wsS RX5 53 yX5_leastFrom wsX5_leastFrom) := goodIn_app (goodIn_of _ (by decide +kernel)) ggX5_leastFrom_X5_leastFrom
set_option maxRecDepth 20000 in
theorem ggX5_leastFrom_X5_both : GoodIn wsX5_leastFrom wsX5_both := goodIn_r _ [76, 15, 77, 78, 8, 79, 80, 81, 82, 83, 84, 85] (by decide +kernel) (by decide +kernel)
set_option maxRecDepth 20000 in
theorem gX5_leastFrom_X5_both : GoodIn wsX5_leastFrom (wsV RX5 69 RX5 yX5_both wsX5_both) := goodIn_app (goodIn_of _ (by decide +kernel)) ggX5_leastFrom_X5_both
theorem dX5_leastFrom_0 : decode cX5_leastFrom 0 = .ok (.iload_n 2, 1) := by decide +kernel
theorem dX5_leastFrom_1 : decode cX5_leastFrom 1 = .ok (.aload_n 0, 1) := by decide +kernel
theorem dX5_leastFrom_2 : decode cX5_leastFrom 2 = .ok (.getfield 34, 3) := by decide +kernel
theorem dX5_leastFrom_5 : decode cX5_leastFrom 5 = .ok (.if_icmp .ge 13, 3) := by decide +kernel
theorem dX5_leastFrom_8 : decode cX5_leastFrom 8 = .ok (.aload_n 0, 1) := by decide +kernel
theorem dX5_leastFrom_9 : decode cX5_leastFrom 9 = .ok (.getfield 18, 3) := by decide +kernel
theorem dX5_leastFrom_12 : decode cX5_leastFrom 12 = .ok (.iload_n 1, 1) := by decide +kernel
theorem dX5_leastFrom_13 : decode cX5_leastFrom 13 = .ok (.iaload, 1) := by decide +kernel
theorem dX5_leastFrom_14 : decode cX5_leastFrom 14 = .ok (.iconst (-1), 1) := by decide +kernel
theorem dX5_leastFrom_15 : decode cX5_leastFrom 15 = .ok (.if_icmp .eq 10, 3) := by decide +kernel
theorem dX5_leastFrom_18 : decode cX5_leastFrom 18 = .ok (.aload_n 0, 1) := by decide +kernel
theorem dX5_leastFrom_19 : decode cX5_leastFrom 19 = .ok (.getfield 18, 3) := by decide +kernel
theorem dX5_leastFrom_22 : decode cX5_leastFrom 22 = .ok (.iload_n 1, 1) := by decide +kernel
theorem dX5_leastFrom_23 : decode cX5_leastFrom 23 = .ok (.iaload, 1) := by decide +kernel
theorem dX5_leastFrom_24 : decode cX5_leastFrom 24 = .ok (.ireturn, 1) := by decide +kernel
theorem dX5_leastFrom_25 : decode cX5_leastFrom 25 = .ok (.aload_n 0, 1) := by decide +kernel
theorem dX5_leastFrom_26 : decode cX5_leastFrom 26 = .ok (.getfield 31, 3) := by decide +kernel
theorem dX5_leastFrom_29 : decode cX5_leastFrom 29 = .ok (.iload_n 1, 1) := by decide +kernel
theorem dX5_leastFrom_30 : decode cX5_leastFrom 30 = .ok (.iconst (-1), 1) := by decide +kernel
theorem dX5_leastFrom_31 : decode cX5_leastFrom 31 = .ok (.ixor, 1) := by decide +kernel
theorem dX5_leastFrom_32 : decode cX5_leastFrom 32 = .ok (.iand, 1) := by decide +kernel
theorem dX5_leastFrom_33 : decode cX5_leastFrom 33 = .ok (.istore_n 3, 1) := by decide +kernel
theorem dX5_leastFrom_34 : decode cX5_leastFrom 34 = .ok (.aload_n 0, 1) := by decide +kernel
theorem dX5_leastFrom_35 : decode cX5_leastFrom 35 = .ok (.iload_n 2, 1) := by decide +kernel
theorem dX5_leastFrom_36 : decode cX5_leastFrom 36 = .ok (.iload_n 3, 1) := by decide +kernel
theorem dX5_leastFrom_37 : decode cX5_leastFrom 37 = .ok (.invokevirtual 78, 3) := by decide +kernel
theorem dX5_leastFrom_40 : decode cX5_leastFrom 40 = .ok (.istore 4, 2) := by decide +kernel
theorem dX5_leastFrom_42 : decode cX5_leastFrom 42 = .ok (.aload_n 0, 1) := by decide +kernel
theorem dX5_leastFrom_43 : decode cX5_leastFrom 43 = .ok (.iload_n 2, 1) := by decide +kernel
theorem dX5_leastFrom_44 : decode cX5_leastFrom 44 = .ok (.iload_n 3, 1) := by decide +kernel
theorem dX5_leastFrom_45 : decode cX5_leastFrom 45 = .ok (.iload 4, 2) := by decide +kernel
theorem dX5_leastFrom_47 : decode cX5_leastFrom 47 = .ok (.invokevirtual 81, 3) := by decide +kernel
theorem dX5_leastFrom_50 : decode cX5_leastFrom 50 = .ok (.istore 5, 2) := by decide +kernel
theorem dX5_leastFrom_52 : decode cX5_leastFrom 52 = .ok (.iload 5, 2) := by decide +kernel
theorem dX5_leastFrom_54 : decode cX5_leastFrom 54 = .ok (.ifCond .lt 8, 3) := by decide +kernel
theorem dX5_leastFrom_57 : decode cX5_leastFrom 57 = .ok (.iload 5, 2) := by decide +kernel
theorem dX5_leastFrom_59 : decode cX5_leastFrom 59 = .ok (.goto 5, 3) := by decide +kernel
theorem dX5_leastFrom_62 : decode cX5_leastFrom 62 = .ok (.iload 4, 2) := by decide +kernel
theorem dX5_leastFrom_64 : decode cX5_leastFrom 64 = .ok (.istore 6, 2) := by decide +kernel
theorem dX5_leastFrom_66 : decode cX5_leastFrom 66 = .ok (.iload 5, 2) := by decide +kernel
theorem dX5_leastFrom_68 : decode cX5_leastFrom 68 = .ok (.ifCond .lt 7, 3) := by decide +kernel
theorem dX5_leastFrom_71 : decode cX5_leastFrom 71 = .ok (.iconst 1, 1) := by decide +kernel
theorem dX5_leastFrom_72 : decode cX5_leastFrom 72 = .ok (.goto 9, 3) := by decide +kernel
theorem dX5_leastFrom_75 : decode cX5_leastFrom 75 = .ok (.aload_n 0, 1) := by decide +kernel
theorem dX5_leastFrom_76 : decode cX5_leastFrom 76 = .ok (.getfield 34, 3) := by decide +kernel
theorem dX5_leastFrom_79 : decode cX5_leastFrom 79 = .ok (.iconst 1, 1) := by decide +kernel
theorem dX5_leastFrom_80 : decode cX5_leastFrom 80 = .ok (.iadd, 1) := by decide +kernel
theorem dX5_leastFrom_81 : decode cX5_leastFrom 81 = .ok (.istore 7, 2) := by decide +kernel
theorem dX5_leastFrom_83 : decode cX5_leastFrom 83 = .ok (.aload_n 0, 1) := by decide +kernel
theorem dX5_leastFrom_84 : decode cX5_leastFrom 84 = .ok (.getfield 24, 3) := by decide +kernel
theorem dX5_leastFrom_87 : decode cX5_leastFrom 87 = .ok (.iload_n 2, 1) := by decide +kernel
theorem dX5_leastFrom_88 : decode cX5_leastFrom 88 = .ok (.aaload, 1) := by decide +kernel
theorem dX5_leastFrom_89 : decode cX5_leastFrom 89 = .ok (.astore 8, 2) := by decide +kernel
theorem dX5_leastFrom_91 : decode cX5_leastFrom 91 = .ok (.sipush 1000, 3) := by decide +kernel
theorem dX5_leastFrom_94 : decode cX5_leastFrom 94 = .ok (.istore 9, 2) := by decide +kernel
theorem dX5_leastFrom_96 : decode cX5_leastFrom 96 = .ok (.iconst 0, 1) := by decide +kernel
theorem dX5_leastFrom_97 : decode cX5_leastFrom 97 = .ok (.istore 10, 2) := by decide +kernel
theorem dX5_leastFrom_99 : decode cX5_leastFrom 99 = .ok (.iload 10, 2) := by decide +kernel
theorem dX5_leastFrom_101 : decode cX5_leastFrom 101 = .ok (.iload 7, 2) := by decide +kernel
theorem dX5_leastFrom_103 : decode cX5_leastFrom 103 = .ok (.if_icmp .ge 99, 3) := by decide +kernel
theorem dX5_leastFrom_106 : decode cX5_leastFrom 106 = .ok (.iload 9, 2) := by decide +kernel
theorem dX5_leastFrom_108 : decode cX5_leastFrom 108 = .ok (.aload 8, 2) := by decide +kernel
theorem dX5_leastFrom_110 : decode cX5_leastFrom 110 = .ok (.iload 4, 2) := by decide +kernel
theorem dX5_leastFrom_112 : decode cX5_leastFrom 112 = .ok (.iaload, 1) := by decide +kernel
theorem dX5_leastFrom_113 : decode cX5_leastFrom 113 = .ok (.if_icmp .le 89, 3) := by decide +kernel
theorem dX5_leastFrom_116 : decode cX5_leastFrom 116 = .ok (.iload 10, 2) := by decide +kernel
theorem dX5_leastFrom_118 : decode cX5_leastFrom 118 = .ok (.ifCond .ne 8, 3) := by decide +kernel
theorem dX5_leastFrom_121 : decode cX5_leastFrom 121 = .ok (.iload 6, 2) := by decide +kernel
theorem dX5_leastFrom_123 : decode cX5_leastFrom 123 = .ok (.goto 7, 3) := by decide +kernel
theorem dX5_leastFrom_126 : decode cX5_leastFrom 126 = .ok (.iload 10, 2) := by decide +kernel
theorem dX5_leastFrom_128 : decode cX5_leastFrom 128 = .ok (.iconst 1, 1) := by decide +kernel
theorem dX5_leastFrom_129 : decode cX5_leastFrom 129 = .ok (.isub, 1) := by decide +kernel
theorem dX5_leastFrom_130 : decode cX5_leastFrom 130 = .ok (.istore 11, 2) := by decide +kernel
theorem dX5_leastFrom_132 : decode cX5_leastFrom 132 = .ok (.iload_n 1, 1) := by decide +kernel
theorem dX5_leastFrom_133 : decode cX5_leastFrom 133 = .ok (.iconst 1, 1) := by decide +kernel
theorem dX5_leastFrom_134 : decode cX5_leastFrom 134 = .ok (.iload 11, 2) := by decide +kernel
theorem dX5_leastFrom_136 : decode cX5_leastFrom 136 = .ok (.ishl, 1) := by decide +kernel
theorem dX5_leastFrom_137 : decode cX5_leastFrom 137 = .ok (.ior, 1) := by decide +kernel
theorem dX5_leastFrom_138 : decode cX5_leastFrom 138 = .ok (.istore 12, 2) := by decide +kernel
theorem dX5_leastFrom_140 : decode cX5_leastFrom 140 = .ok (.aload 8, 2) := by decide +kernel
theorem dX5_leastFrom_142 : decode cX5_leastFrom 142 = .ok (.iload 11, 2) := by decide +kernel
theorem dX5_leastFrom_144 : decode cX5_leastFrom 144 = .ok (.iaload, 1) := by decide +kernel
theorem dX5_leastFrom_145 : decode cX5_leastFrom 145 = .ok (.iload 9, 2) := by decide +kernel
theorem dX5_leastFrom_147 : decode cX5_leastFrom 147 = .ok (.if_icmp .ge 49, 3) := by decide +kernel
theorem dX5_leastFrom_150 : decode cX5_leastFrom 150 = .ok (.aload_n 0, 1) := by decide +kernel
theorem dX5_leastFrom_151 : decode cX5_leastFrom 151 = .ok (.getfield 18, 3) := by decide +kernel
theorem dX5_leastFrom_154 : decode cX5_leastFrom 154 = .ok (.iload 12, 2) := by decide +kernel
theorem dX5_leastFrom_156 : decode cX5_leastFrom 156 = .ok (.iaload, 1) := by decide +kernel
theorem dX5_leastFrom_157 : decode cX5_leastFrom 157 = .ok (.iconst (-1), 1) := by decide +kernel
theorem dX5_leastFrom_158 : decode cX5_leastFrom 158 = .ok (.if_icmp .ne 13, 3) := by decide +kernel
theorem dX5_leastFrom_161 : decode cX5_leastFrom 161 = .ok (.aload_n 0, 1) := by decide +kernel
theorem dX5_leastFrom_162 : decode cX5_leastFrom 162 = .ok (.getfield 12, 3) := by decide +kernel
theorem dX5_leastFrom_165 : decode cX5_leastFrom 165 = .ok (.iload_n 2, 1) := by decide +kernel
theorem dX5_leastFrom_166 : decode cX5_leastFrom 166 = .ok (.iload 11, 2) := by decide +kernel
theorem dX5_leastFrom_168 : decode cX5_leastFrom 168 = .ok (.invokevirtual 65, 3) := by decide +kernel
theorem dX5_leastFrom_171 : decode cX5_leastFrom 171 = .ok (.iload 9, 2) := by decide +kernel
theorem dX5_leastFrom_173 : decode cX5_leastFrom 173 = .ok (.aload_n 0, 1) := by decide +kernel
theorem dX5_leastFrom_174 : decode cX5_leastFrom 174 = .ok (.aload 8, 2) := by decide +kernel
theorem dX5_leastFrom_176 : decode cX5_leastFrom 176 = .ok (.iload 11, 2) := by decide +kernel
theorem dX5_leastFrom_178 : decode cX5_leastFrom 178 = .ok (.iaload, 1) := by decide +kernel
theorem dX5_leastFrom_179 : decode cX5_leastFrom 179 = .ok (.aload_n 0, 1) := by decide +kernel
theorem dX5_leastFrom_180 : decode cX5_leastFrom 180 = .ok (.iload 12, 2) := by decide +kernel
theorem dX5_leastFrom_182 : decode cX5_leastFrom 182 = .ok (.iload_n 2, 1) := by decide +kernel
theorem dX5_leastFrom_183 : decode cX5_leastFrom 183 = .ok (.iconst 1, 1) := by decide +kernel
theorem dX5_leastFrom_184 : decode cX5_leastFrom 184 = .ok (.iadd, 1) := by decide +kernel
theorem dX5_leastFrom_185 : decode cX5_leastFrom 185 = .ok (.invokestatic 53, 3) := by decide +kernel
theorem dX5_leastFrom_188 : decode cX5_leastFrom 188 = .ok (.invokevirtual 69, 3) := by decide +kernel
theorem dX5_leastFrom_191 : decode cX5_leastFrom 191 = .ok (.invokestatic 84, 3) := by decide +kernel
theorem dX5_leastFrom_194 : decode cX5_leastFrom 194 = .ok (.istore 9, 2) := by decide +kernel
theorem dX5_leastFrom_196 : decode cX5_leastFrom 196 = .ok (.iinc 10 1, 3) := by decide +kernel
theorem dX5_leastFrom_199 : decode cX5_leastFrom 199 = .ok (.goto (-100), 3) := by decide +kernel
theorem dX5_leastFrom_202 : decode cX5_leastFrom 202 = .ok (.aload_n 0, 1) := by decide +kernel
theorem dX5_leastFrom_203 : decode cX5_leastFrom 203 = .ok (.getfield 18, 3) := by decide +kernel
theorem dX5_leastFrom_206 : decode cX5_leastFrom 206 = .ok (.iload_n 1, 1) := by decide +kernel
theorem dX5_leastFrom_207 : decode cX5_leastFrom 207 = .ok (.iload 9, 2) := by decide +kernel
theorem dX5_leastFrom_209 : decode cX5_leastFrom 209 = .ok (.iastore, 1) := by decide +kernel
theorem dX5_leastFrom_210 : decode cX5_leastFrom 210 = .ok (.iload 9, 2) := by decide +kernel
theorem dX5_leastFrom_212 : decode cX5_leastFrom 212 = .ok (.ireturn, 1) := by decide +kernel
set_option maxRecDepth 20000 in
theorem ggX5_priceAll_X11_in : GoodIn wsX5_priceAll wsX11_in := goodIn_r _ [7] (by decide +kernel) (by decide +kernel)
set_option maxRecDepth 20000 in
theorem gX5_priceAll_X11_in_n57 : GoodIn wsX5_priceAll (wsX11_in) := ggX5_priceAll_X11_in
set_option maxRecDepth 20000 in
theorem ggX5_priceAll_X3_price : GoodIn wsX5_priceAll wsX3_price := goodIn_r _ [11, 12, 13, 14, 9, 15, 16, 17, 18, 19, 20, 21, 22, 23, 6, 24, 25, 26, 27, 28, 29, 30, 31, 32, 33, 34, 35, 36, 37, 38, 45, 46] (by decide +kernel) (by decide +kernel)
set_option maxRecDepth 20000 in
theorem gX5_priceAll_X3_price_n61 : GoodIn wsX5_priceAll (wsX3_price) := ggX5_priceAll_X3_price
theorem dX5_priceAll_0 : decode cX5_priceAll 0 = .ok (.aload_n 0, 1) := by decide +kernel
theorem dX5_priceAll_1 : decode cX5_priceAll 1 = .ok (.getfield 24, 3) := by decide +kernel
theorem dX5_priceAll_4 : decode cX5_priceAll 4 = .ok (.iload_n 1, 1) := by decide +kernel
theorem dX5_priceAll_5 : decode cX5_priceAll 5 = .ok (.aaload, 1) := by decide +kernel
theorem dX5_priceAll_6 : decode cX5_priceAll 6 = .ok (.astore_n 3, 1) := by decide +kernel
theorem dX5_priceAll_7 : decode cX5_priceAll 7 = .ok (.iconst 0, 1) := by decide +kernel
theorem dX5_priceAll_8 : decode cX5_priceAll 8 = .ok (.istore 4, 2) := by decide +kernel
theorem dX5_priceAll_10 : decode cX5_priceAll 10 = .ok (.iconst 0, 1) := by decide +kernel
theorem dX5_priceAll_11 : decode cX5_priceAll 11 = .ok (.istore 5, 2) := by decide +kernel
theorem dX5_priceAll_13 : decode cX5_priceAll 13 = .ok (.iload 5, 2) := by decide +kernel
theorem dX5_priceAll_15 : decode cX5_priceAll 15 = .ok (.aload_n 0, 1) := by decide +kernel
theorem dX5_priceAll_16 : decode cX5_priceAll 16 = .ok (.getfield 34, 3) := by decide +kernel
theorem dX5_priceAll_19 : decode cX5_priceAll 19 = .ok (.if_icmp .ge 62, 3) := by decide +kernel
theorem dX5_priceAll_22 : decode cX5_priceAll 22 = .ok (.aload_n 3, 1) := by decide +kernel
theorem dX5_priceAll_23 : decode cX5_priceAll 23 = .ok (.iload 5, 2) := by decide +kernel
theorem dX5_priceAll_25 : decode cX5_priceAll 25 = .ok (.iload_n 2, 1) := by decide +kernel
theorem dX5_priceAll_26 : decode cX5_priceAll 26 = .ok (.iload 5, 2) := by decide +kernel
theorem dX5_priceAll_28 : decode cX5_priceAll 28 = .ok (.invokestatic 57, 3) := by decide +kernel
theorem dX5_priceAll_31 : decode cX5_priceAll 31 = .ok (.ifCond .eq 20, 3) := by decide +kernel
theorem dX5_priceAll_34 : decode cX5_priceAll 34 = .ok (.aload_n 0, 1) := by decide +kernel
theorem dX5_priceAll_35 : decode cX5_priceAll 35 = .ok (.getfield 12, 3) := by decide +kernel
theorem dX5_priceAll_38 : decode cX5_priceAll 38 = .ok (.aload_n 0, 1) := by decide +kernel
theorem dX5_priceAll_39 : decode cX5_priceAll 39 = .ok (.getfield 27, 3) := by decide +kernel
theorem dX5_priceAll_42 : decode cX5_priceAll 42 = .ok (.iload_n 1, 1) := by decide +kernel
theorem dX5_priceAll_43 : decode cX5_priceAll 43 = .ok (.iload 5, 2) := by decide +kernel
theorem dX5_priceAll_45 : decode cX5_priceAll 45 = .ok (.invokevirtual 61, 3) := by decide +kernel
theorem dX5_priceAll_48 : decode cX5_priceAll 48 = .ok (.goto 6, 3) := by decide +kernel
theorem dX5_priceAll_51 : decode cX5_priceAll 51 = .ok (.sipush 1000, 3) := by decide +kernel
theorem dX5_priceAll_54 : decode cX5_priceAll 54 = .ok (.iastore, 1) := by decide +kernel
theorem dX5_priceAll_55 : decode cX5_priceAll 55 = .ok (.aload_n 3, 1) := by decide +kernel
theorem dX5_priceAll_56 : decode cX5_priceAll 56 = .ok (.iload 5, 2) := by decide +kernel
theorem dX5_priceAll_58 : decode cX5_priceAll 58 = .ok (.iaload, 1) := by decide +kernel
theorem dX5_priceAll_59 : decode cX5_priceAll 59 = .ok (.aload_n 3, 1) := by decide +kernel
theorem dX5_priceAll_60 : decode cX5_priceAll 60 = .ok (.iload 4, 2) := by decide +kernel
theorem dX5_priceAll_62 : decode cX5_priceAll 62 = .ok (.iaload, 1) := by decide +kernel
theorem dX5_priceAll_63 : decode cX5_priceAll 63 = .ok (.if_icmp .ge 8, 3) := by decide +kernel
theorem dX5_priceAll_66 : decode cX5_priceAll 66 = .ok (.iload 5, 2) := by decide +kernel
theorem dX5_priceAll_68 : decode cX5_priceAll 68 = .ok (.goto 5, 3) := by decide +kernel
theorem dX5_priceAll_71 : decode cX5_priceAll 71 = .ok (.iload 4, 2) := by decide +kernel
theorem dX5_priceAll_73 : decode cX5_priceAll 73 = .ok (.istore 4, 2) := by decide +kernel
theorem dX5_priceAll_75 : decode cX5_priceAll 75 = .ok (.iinc 5 1, 3) := by decide +kernel
theorem dX5_priceAll_78 : decode cX5_priceAll 78 = .ok (.goto (-65), 3) := by decide +kernel
theorem dX5_priceAll_81 : decode cX5_priceAll 81 = .ok (.iload 4, 2) := by decide +kernel
theorem dX5_priceAll_83 : decode cX5_priceAll 83 = .ok (.ireturn, 1) := by decide +kernel
set_option maxRecDepth 20000 in
theorem ggX5_neverWrong_X3_leastTight : GoodIn wsX5_neverWrong wsX3_leastTight := goodIn_r _ [8, 9, 10, 11, 12, 13, 14, 15, 6, 16, 17, 18, 19, 20, 21, 22, 23, 24, 38, 39] (by decide +kernel) (by decide +kernel)
set_option maxRecDepth 20000 in
theorem gX5_neverWrong_X3_leastTight_n87 : GoodIn wsX5_neverWrong (wsX3_leastTight) := ggX5_neverWrong_X3_leastTight
set_option maxRecDepth 20000 in
theorem ggX5_neverWrong_X3_hasWayOutside : GoodIn wsX5_neverWrong wsX3_hasWayOutside := goodIn_r _ [27, 17, 9, 10, 11, 12, 18, 19, 20, 21, 22, 28, 29, 30, 31, 23, 24, 38, 39] (by decide +kernel) (by decide +kernel)
set_option maxRecDepth 20000 in
theorem gX5_neverWrong_X3_hasWayOutside_n90 : GoodIn wsX5_neverWrong (wsX3_hasWayOutside) := ggX5_neverWrong_X3_hasWayOutside
theorem dX5_neverWrong_0 : decode cX5_neverWrong 0 = .ok (.aload_n 0, 1) := by decide +kernel
theorem dX5_neverWrong_1 : decode cX5_neverWrong 1 = .ok (.getfield 27, 3) := by decide +kernel
theorem dX5_neverWrong_4 : decode cX5_neverWrong 4 = .ok (.iconst 1, 1) := by decide +kernel
theorem dX5_neverWrong_5 : decode cX5_neverWrong 5 = .ok (.if_icmp .ne 13, 3) := by decide +kernel
theorem dX5_neverWrong_8 : decode cX5_neverWrong 8 = .ok (.aload_n 0, 1) := by decide +kernel
theorem dX5_neverWrong_9 : decode cX5_neverWrong 9 = .ok (.getfield 12, 3) := by decide +kernel
theorem dX5_neverWrong_12 : decode cX5_neverWrong 12 = .ok (.iload_n 1, 1) := by decide +kernel
theorem dX5_neverWrong_13 : decode cX5_neverWrong 13 = .ok (.iload_n 2, 1) := by decide +kernel
theorem dX5_neverWrong_14 : decode cX5_neverWrong 14 = .ok (.invokevirtual 87, 3) := by decide +kernel
theorem dX5_neverWrong_17 : decode cX5_neverWrong 17 = .ok (.ireturn, 1) := by decide +kernel
theorem dX5_neverWrong_18 : decode cX5_neverWrong 18 = .ok (.aload_n 0, 1) := by decide +kernel
theorem dX5_neverWrong_19 : decode cX5_neverWrong 19 = .ok (.getfield 24, 3) := by decide +kernel
theorem dX5_neverWrong_22 : decode cX5_neverWrong 22 = .ok (.iload_n 1, 1) := by decide +kernel
theorem dX5_neverWrong_23 : decode cX5_neverWrong 23 = .ok (.aaload, 1) := by decide +kernel
theorem dX5_neverWrong_24 : decode cX5_neverWrong 24 = .ok (.iload_n 3, 1) := by decide +kernel
theorem dX5_neverWrong_25 : decode cX5_neverWrong 25 = .ok (.iaload, 1) := by decide +kernel
theorem dX5_neverWrong_26 : decode cX5_neverWrong 26 = .ok (.istore 4, 2) := by decide +kernel
theorem dX5_neverWrong_28 : decode cX5_neverWrong 28 = .ok (.iload_n 3, 1) := by decide +kernel
theorem dX5_neverWrong_29 : decode cX5_neverWrong 29 = .ok (.istore 5, 2) := by decide +kernel
theorem dX5_neverWrong_31 : decode cX5_neverWrong 31 = .ok (.iload 5, 2) := by decide +kernel
theorem dX5_neverWrong_33 : decode cX5_neverWrong 33 = .ok (.aload_n 0, 1) := by decide +kernel
theorem dX5_neverWrong_34 : decode cX5_neverWrong 34 = .ok (.getfield 34, 3) := by decide +kernel
theorem dX5_neverWrong_37 : decode cX5_neverWrong 37 = .ok (.if_icmp .ge 45, 3) := by decide +kernel
theorem dX5_neverWrong_40 : decode cX5_neverWrong 40 = .ok (.iload 4, 2) := by decide +kernel
theorem dX5_neverWrong_42 : decode cX5_neverWrong 42 = .ok (.iconst 1, 1) := by decide +kernel
theorem dX5_neverWrong_43 : decode cX5_neverWrong 43 = .ok (.if_icmp .ne 39, 3) := by decide +kernel
theorem dX5_neverWrong_46 : decode cX5_neverWrong 46 = .ok (.aload_n 0, 1) := by decide +kernel
theorem dX5_neverWrong_47 : decode cX5_neverWrong 47 = .ok (.getfield 24, 3) := by decide +kernel
theorem dX5_neverWrong_50 : decode cX5_neverWrong 50 = .ok (.iload_n 1, 1) := by decide +kernel
theorem dX5_neverWrong_51 : decode cX5_neverWrong 51 = .ok (.aaload, 1) := by decide +kernel
theorem dX5_neverWrong_52 : decode cX5_neverWrong 52 = .ok (.iload 5, 2) := by decide +kernel
theorem dX5_neverWrong_54 : decode cX5_neverWrong 54 = .ok (.iaload, 1) := by decide +kernel
theorem dX5_neverWrong_55 : decode cX5_neverWrong 55 = .ok (.iconst 1, 1) := by decide +kernel
theorem dX5_neverWrong_56 : decode cX5_neverWrong 56 = .ok (.if_icmp .ne 20, 3) := by decide +kernel
theorem dX5_neverWrong_59 : decode cX5_neverWrong 59 = .ok (.aload_n 0, 1) := by decide +kernel
theorem dX5_neverWrong_60 : decode cX5_neverWrong 60 = .ok (.getfield 12, 3) := by decide +kernel
theorem dX5_neverWrong_63 : decode cX5_neverWrong 63 = .ok (.iload_n 1, 1) := by decide +kernel
theorem dX5_neverWrong_64 : decode cX5_neverWrong 64 = .ok (.iload 5, 2) := by decide +kernel
theorem dX5_neverWrong_66 : decode cX5_neverWrong 66 = .ok (.iload_n 2, 1) := by decide +kernel
theorem dX5_neverWrong_67 : decode cX5_neverWrong 67 = .ok (.invokevirtual 90, 3) := by decide +kernel
theorem dX5_neverWrong_70 : decode cX5_neverWrong 70 = .ok (.ifCond .eq 6, 3) := by decide +kernel
theorem dX5_neverWrong_73 : decode cX5_neverWrong 73 = .ok (.iload 5, 2) := by decide +kernel
theorem dX5_neverWrong_75 : decode cX5_neverWrong 75 = .ok (.ireturn, 1) := by decide +kernel
theorem dX5_neverWrong_76 : decode cX5_neverWrong 76 = .ok (.iinc 5 1, 3) := by decide +kernel
theorem dX5_neverWrong_79 : decode cX5_neverWrong 79 = .ok (.goto (-48), 3) := by decide +kernel
theorem dX5_neverWrong_82 : decode cX5_neverWrong 82 = .ok (.iload 4, 2) := by decide +kernel
theorem dX5_neverWrong_84 : decode cX5_neverWrong 84 = .ok (.ifCond .ne 7, 3) := by decide +kernel
theorem dX5_neverWrong_87 : decode cX5_neverWrong 87 = .ok (.iload_n 3, 1) := by decide +kernel
theorem dX5_neverWrong_88 : decode cX5_neverWrong 88 = .ok (.goto 4, 3) := by decide +kernel
theorem dX5_neverWrong_91 : decode cX5_neverWrong 91 = .ok (.iconst (-1), 1) := by decide +kernel
theorem dX5_neverWrong_92 : decode cX5_neverWrong 92 = .ok (.ireturn, 1) := by decide +kernel
set_option maxRecDepth 20000 in
theorem ggX6_init_X3_init : GoodIn wsX6_init wsX3_init := goodIn_r _ [21, 22, 2, 3, 23, 12, 24, 25, 37, 38] (by decide +kernel) (by decide +kernel)
set_option maxRecDepth 20000 in
theorem gX6_init_X3_init_n11 : GoodIn wsX6_init (wsX3_init) := ggX6_init_X3_init
set_option maxRecDepth 20000 in
theorem ggX6_init_X5_init : GoodIn wsX6_init wsX5_init := goodIn_r _ [27, 28, 2, 3, 29, 5, 6, 30, 12, 31, 32, 33, 34, 35, 36, 20, 21, 22, 23, 24, 25, 37, 38, 48, 49, 50, 51, 52, 53] (by decide +kernel) (by decide +kernel)
set_option maxRecDepth 20000 in
theorem gX6_init_X5_init_n20 : GoodIn wsX6_init (wsX5_init) := ggX6_init_X5_init
theorem dX6_init_0 : decode cX6_init 0 = .ok (.aload_n 0, 1) := by decide +kernel
theorem dX6_init_1 : decode cX6_init 1 = .ok (.invokespecial 3, 3) := by decide +kernel
theorem dX6_init_4 : decode cX6_init 4 = .ok (.aload_n 0, 1) := by decide +kernel
theorem dX6_init_5 : decode cX6_init 5 = .ok (.new 9, 3) := by decide +kernel
theorem dX6_init_8 : decode cX6_init 8 = .ok (.dup, 1) := by decide +kernel
theorem dX6_init_9 : decode cX6_init 9 = .ok (.invokespecial 11, 3) := by decide +kernel
theorem dX6_init_12 : decode cX6_init 12 = .ok (.putfield 12, 3) := by decide +kernel
theorem dX6_init_15 : decode cX6_init 15 = .ok (.aload_n 0, 1) := by decide +kernel
theorem dX6_init_16 : decode cX6_init 16 = .ok (.new 18, 3) := by decide +kernel
theorem dX6_init_19 : decode cX6_init 19 = .ok (.dup, 1) := by decide +kernel
theorem dX6_init_20 : decode cX6_init 20 = .ok (.invokespecial 20, 3) := by decide +kernel
theorem dX6_init_23 : decode cX6_init 23 = .ok (.putfield 21, 3) := by decide +kernel
theorem dX6_init_26 : decode cX6_init 26 = .ok (.aload_n 0, 1) := by decide +kernel
theorem dX6_init_27 : decode cX6_init 27 = .ok (.bipush 12, 2) := by decide +kernel
theorem dX6_init_29 : decode cX6_init 29 = .ok (.newarray .int, 2) := by decide +kernel
theorem dX6_init_31 : decode cX6_init 31 = .ok (.putfield 25, 3) := by decide +kernel
theorem dX6_init_34 : decode cX6_init 34 = .ok (.aload_n 0, 1) := by decide +kernel
theorem dX6_init_35 : decode cX6_init 35 = .ok (.bipush 12, 2) := by decide +kernel
theorem dX6_init_37 : decode cX6_init 37 = .ok (.newarray .int, 2) := by decide +kernel
theorem dX6_init_39 : decode cX6_init 39 = .ok (.putfield 29, 3) := by decide +kernel
theorem dX6_init_42 : decode cX6_init 42 = .ok (.aload_n 0, 1) := by decide +kernel
theorem dX6_init_43 : decode cX6_init 43 = .ok (.iconst 0, 1) := by decide +kernel
theorem dX6_init_44 : decode cX6_init 44 = .ok (.putfield 32, 3) := by decide +kernel
theorem dX6_init_47 : decode cX6_init 47 = .ok (.aload_n 0, 1) := by decide +kernel
theorem dX6_init_48 : decode cX6_init 48 = .ok (.iconst 0, 1) := by decide +kernel
theorem dX6_init_49 : decode cX6_init 49 = .ok (.putfield 36, 3) := by decide +kernel
theorem dX6_init_52 : decode cX6_init 52 = .ok (.aload_n 0, 1) := by decide +kernel
theorem dX6_init_53 : decode cX6_init 53 = .ok (.iconst 0, 1) := by decide +kernel
theorem dX6_init_54 : decode cX6_init 54 = .ok (.putfield 39, 3) := by decide +kernel
theorem dX6_init_57 : decode cX6_init 57 = .ok (.aload_n 0, 1) := by decide +kernel
theorem dX6_init_58 : decode cX6_init 58 = .ok (.iconst 0, 1) := by decide +kernel
theorem dX6_init_59 : decode cX6_init 59 = .ok (.putfield 43, 3) := by decide +kernel
theorem dX6_init_62 : decode cX6_init 62 = .ok (.aload_n 0, 1) := by decide +kernel
theorem dX6_init_63 : decode cX6_init 63 = .ok (.iconst 0, 1) := by decide +kernel
theorem dX6_init_64 : decode cX6_init 64 = .ok (.putfield 46, 3) := by decide +kernel
theorem dX6_init_67 : decode cX6_init 67 = .ok (.return_, 1) := by decide +kernel
theorem dX6_length_0 : decode cX6_length 0 = .ok (.aload_n 0, 1) := by decide +kernel
theorem dX6_length_1 : decode cX6_length 1 = .ok (.getfield 39, 3) := by decide +kernel
theorem dX6_length_4 : decode cX6_length 4 = .ok (.ifCond .eq 10, 3) := by decide +kernel
theorem dX6_length_7 : decode cX6_length 7 = .ok (.aload_n 0, 1) := by decide +kernel
theorem dX6_length_8 : decode cX6_length 8 = .ok (.getfield 36, 3) := by decide +kernel
theorem dX6_length_11 : decode cX6_length 11 = .ok (.goto 4, 3) := by decide +kernel
theorem dX6_length_14 : decode cX6_length 14 = .ok (.iconst 0, 1) := by decide +kernel
theorem dX6_length_15 : decode cX6_length 15 = .ok (.ireturn, 1) := by decide +kernel
theorem dX6_drop_0 : decode cX6_drop 0 = .ok (.aload_n 0, 1) := by decide +kernel
theorem dX6_drop_1 : decode cX6_drop 1 = .ok (.iconst 0, 1) := by decide +kernel
theorem dX6_drop_2 : decode cX6_drop 2 = .ok (.putfield 39, 3) := by decide +kernel
theorem dX6_drop_5 : decode cX6_drop 5 = .ok (.return_, 1) := by decide +kernel
set_option maxRecDepth 20000 in
theorem ggX6_drafted_X6_draftSet : GoodIn wsX6_drafted wsX6_draftSet := goodIn_r _ [5, 6, 7, 11, 12, 13, 14, 15, 16, 17, 18, 19] (by decide +kernel) (by decide +kernel)
set_option maxRecDepth 20000 in
theorem gX6_drafted_X6_draftSet : GoodIn wsX6_drafted (wsV RX6 49 RX6 yX6_draftSet wsX6_draftSet) := goodIn_app (goodIn_of _ (by decide +kernel)) ggX6_drafted_X6_draftSet
set_option maxRecDepth 20000 in
theorem ggX6_drafted_X11_in : GoodIn wsX6_drafted wsX11_in := goodIn_r _ [10] (by decide +kernel) (by decide +kernel)
set_option maxRecDepth 20000 in
theorem gX6_drafted_X11_in_n53 : GoodIn wsX6_drafted (wsX11_in) := ggX6_drafted_X11_in
theorem dX6_drafted_0 : decode cX6_drafted 0 = .ok (.aload_n 0, 1) := by decide +kernel
theorem dX6_drafted_1 : decode cX6_drafted 1 = .ok (.invokevirtual 49, 3) := by decide +kernel
theorem dX6_drafted_4 : decode cX6_drafted 4 = .ok (.iload_n 1, 1) := by decide +kernel
theorem dX6_drafted_5 : decode cX6_drafted 5 = .ok (.invokestatic 53, 3) := by decide +kernel
theorem dX6_drafted_8 : decode cX6_drafted 8 = .ok (.ireturn, 1) := by decide +kernel
theorem dX6_draftSet_0 : decode cX6_draftSet 0 = .ok (.iconst 0, 1) := by decide +kernel
theorem dX6_draftSet_1 : decode cX6_draftSet 1 = .ok (.istore_n 1, 1) := by decide +kernel
theorem dX6_draftSet_2 : decode cX6_draftSet 2 = .ok (.iconst 0, 1) := by decide +kernel
theorem dX6_draftSet_3 : decode cX6_draftSet 3 = .ok (.istore_n 2, 1) := by decide +kernel
theorem dX6_draftSet_4 : decode cX6_draftSet 4 = .ok (.iload_n 2, 1) := by decide +kernel
theorem dX6_draftSet_5 : decode cX6_draftSet 5 = .ok (.aload_n 0, 1) := by decide +kernel
theorem dX6_draftSet_6 : decode cX6_draftSet 6 = .ok (.getfield 32, 3) := by decide +kernel
theorem dX6_draftSet_9 : decode cX6_draftSet 9 = .ok (.if_icmp .ge 20, 3) := by decide +kernel
theorem dX6_draftSet_12 : decode cX6_draftSet 12 = .ok (.iload_n 1, 1) := by decide +kernel
theorem dX6_draftSet_13 : decode cX6_draftSet 13 = .ok (.iconst 1, 1) := by decide +kernel
theorem dX6_draftSet_14 : decode cX6_draftSet 14 = .ok (.aload_n 0, 1) := by decide +kernel
theorem dX6_draftSet_15 : decode cX6_draftSet 15 = .ok (.getfield 29, 3) := by decide +kernel
theorem dX6_draftSet_18 : decode cX6_draftSet 18 = .ok (.iload_n 2, 1) := by decide +kernel
theorem dX6_draftSet_19 : decode cX6_draftSet 19 = .ok (.iaload, 1) := by decide +kernel
theorem dX6_draftSet_20 : decode cX6_draftSet 20 = .ok (.ishl, 1) := by decide +kernel
theorem dX6_draftSet_21 : decode cX6_draftSet 21 = .ok (.ior, 1) := by decide +kernel
theorem dX6_draftSet_22 : decode cX6_draftSet 22 = .ok (.istore_n 1, 1) := by decide +kernel
theorem dX6_draftSet_23 : decode cX6_draftSet 23 = .ok (.iinc 2 1, 3) := by decide +kernel
theorem dX6_draftSet_26 : decode cX6_draftSet 26 = .ok (.goto (-22), 3) := by decide +kernel
theorem dX6_draftSet_29 : decode cX6_draftSet 29 = .ok (.iload_n 1, 1) := by decide +kernel
theorem dX6_draftSet_30 : decode cX6_draftSet 30 = .ok (.ireturn, 1) := by decide +kernel
theorem dX6_addToDraft_0 : decode cX6_addToDraft 0 = .ok (.aload_n 0, 1) := by decide +kernel
theorem dX6_addToDraft_1 : decode cX6_addToDraft 1 = .ok (.getfield 32, 3) := by decide +kernel
theorem dX6_addToDraft_4 : decode cX6_addToDraft 4 = .ok (.bipush 12, 2) := by decide +kernel
theorem dX6_addToDraft_6 : decode cX6_addToDraft 6 = .ok (.if_icmp .ge 23, 3) := by decide +kernel
theorem dX6_addToDraft_9 : decode cX6_addToDraft 9 = .ok (.aload_n 0, 1) := by decide +kernel
theorem dX6_addToDraft_10 : decode cX6_addToDraft 10 = .ok (.getfield 29, 3) := by decide +kernel
theorem dX6_addToDraft_13 : decode cX6_addToDraft 13 = .ok (.aload_n 0, 1) := by decide +kernel
theorem dX6_addToDraft_14 : decode cX6_addToDraft 14 = .ok (.getfield 32, 3) := by decide +kernel
theorem dX6_addToDraft_17 : decode cX6_addToDraft 17 = .ok (.iload_n 1, 1) := by decide +kernel
theorem dX6_addToDraft_18 : decode cX6_addToDraft 18 = .ok (.iastore, 1) := by decide +kernel
theorem dX6_addToDraft_19 : decode cX6_addToDraft 19 = .ok (.aload_n 0, 1) := by decide +kernel
theorem dX6_addToDraft_20 : decode cX6_addToDraft 20 = .ok (.dup, 1) := by decide +kernel
theorem dX6_addToDraft_21 : decode cX6_addToDraft 21 = .ok (.getfield 32, 3) := by decide +kernel
theorem dX6_addToDraft_24 : decode cX6_addToDraft 24 = .ok (.iconst 1, 1) := by decide +kernel
theorem dX6_addToDraft_25 : decode cX6_addToDraft 25 = .ok (.iadd, 1) := by decide +kernel
theorem dX6_addToDraft_26 : decode cX6_addToDraft 26 = .ok (.putfield 32, 3) := by decide +kernel
theorem dX6_addToDraft_29 : decode cX6_addToDraft 29 = .ok (.return_, 1) := by decide +kernel
set_option maxRecDepth 20000 in
theorem ggX6_keepDrafted_X11_in : GoodIn wsX6_keepDrafted wsX11_in := goodIn_r _ [5] (by decide +kernel) (by decide +kernel)
set_option maxRecDepth 20000 in
theorem gX6_keepDrafted_X11_in_n53 : GoodIn wsX6_keepDrafted (wsX11_in) := ggX6_keepDrafted_X11_in
theorem dX6_keepDrafted_0 : decode cX6_keepDrafted 0 = .ok (.iconst 0, 1) := by decide +kernel
theorem dX6_keepDrafted_1 : decode cX6_keepDrafted 1 = .ok (.istore_n 2, 1) := by decide +kernel
theorem dX6_keepDrafted_2 : decode cX6_keepDrafted 2 = .ok (.iconst 0, 1) := by decide +kernel
theorem dX6_keepDrafted_3 : decode cX6_keepDrafted 3 = .ok (.istore_n 3, 1) := by decide +kernel
theorem dX6_keepDrafted_4 : decode cX6_keepDrafted 4 = .ok (.iload_n 3, 1) := by decide +kernel
theorem dX6_keepDrafted_5 : decode cX6_keepDrafted 5 = .ok (.aload_n 0, 1) := by decide +kernel
theorem dX6_keepDrafted_6 : decode cX6_keepDrafted 6 = .ok (.getfield 32, 3) := by decide +kernel
theorem dX6_keepDrafted_9 : decode cX6_keepDrafted 9 = .ok (.if_icmp .ge 37, 3) := by decide +kernel
theorem dX6_keepDrafted_12 : decode cX6_keepDrafted 12 = .ok (.iload_n 1, 1) := by decide +kernel
theorem dX6_keepDrafted_13 : decode cX6_keepDrafted 13 = .ok (.aload_n 0, 1) := by decide +kernel
theorem dX6_keepDrafted_14 : decode cX6_keepDrafted 14 = .ok (.getfield 29, 3) := by decide +kernel
theorem dX6_keepDrafted_17 : decode cX6_keepDrafted 17 = .ok (.iload_n 3, 1) := by decide +kernel
theorem dX6_keepDrafted_18 : decode cX6_keepDrafted 18 = .ok (.iaload, 1) := by decide +kernel
theorem dX6_keepDrafted_19 : decode cX6_keepDrafted 19 = .ok (.invokestatic 53, 3) := by decide +kernel
theorem dX6_keepDrafted_22 : decode cX6_keepDrafted 22 = .ok (.ifCond .eq 18, 3) := by decide +kernel
theorem dX6_keepDrafted_25 : decode cX6_keepDrafted 25 = .ok (.aload_n 0, 1) := by decide +kernel
theorem dX6_keepDrafted_26 : decode cX6_keepDrafted 26 = .ok (.getfield 29, 3) := by decide +kernel
theorem dX6_keepDrafted_29 : decode cX6_keepDrafted 29 = .ok (.iload_n 2, 1) := by decide +kernel
theorem dX6_keepDrafted_30 : decode cX6_keepDrafted 30 = .ok (.aload_n 0, 1) := by decide +kernel
theorem dX6_keepDrafted_31 : decode cX6_keepDrafted 31 = .ok (.getfield 29, 3) := by decide +kernel
theorem dX6_keepDrafted_34 : decode cX6_keepDrafted 34 = .ok (.iload_n 3, 1) := by decide +kernel
theorem dX6_keepDrafted_35 : decode cX6_keepDrafted 35 = .ok (.iaload, 1) := by decide +kernel
theorem dX6_keepDrafted_36 : decode cX6_keepDrafted 36 = .ok (.iastore, 1) := by decide +kernel
theorem dX6_keepDrafted_37 : decode cX6_keepDrafted 37 = .ok (.iinc 2 1, 3) := by decide +kernel
theorem dX6_keepDrafted_40 : decode cX6_keepDrafted 40 = .ok (.iinc 3 1, 3) := by decide +kernel
theorem dX6_keepDrafted_43 : decode cX6_keepDrafted 43 = .ok (.goto (-39), 3) := by decide +kernel
theorem dX6_keepDrafted_46 : decode cX6_keepDrafted 46 = .ok (.aload_n 0, 1) := by decide +kernel
theorem dX6_keepDrafted_47 : decode cX6_keepDrafted 47 = .ok (.iload_n 2, 1) := by decide +kernel
theorem dX6_keepDrafted_48 : decode cX6_keepDrafted 48 = .ok (.putfield 32, 3) := by decide +kernel
theorem dX6_keepDrafted_51 : decode cX6_keepDrafted 51 = .ok (.return_, 1) := by decide +kernel
set_option maxRecDepth 20000 in
theorem ggX6_begin_X3_start : GoodIn wsX6_begin wsX3_start := goodIn_r _ [9, 10, 11, 12, 13, 14, 15, 25, 26, 27, 28, 29] (by decide +kernel) (by decide +kernel)
set_option maxRecDepth 20000 in
theorem gX6_begin_X3_start_n57 : GoodIn wsX6_begin (wsX3_start) := ggX6_begin_X3_start
theorem dX6_begin_0 : decode cX6_begin 0 = .ok (.aload_n 0, 1) := by decide +kernel
theorem dX6_begin_1 : decode cX6_begin 1 = .ok (.getfield 12, 3) := by decide +kernel
theorem dX6_begin_4 : decode cX6_begin 4 = .ok (.aload_n 1, 1) := by decide +kernel
theorem dX6_begin_5 : decode cX6_begin 5 = .ok (.invokevirtual 57, 3) := by decide +kernel
theorem dX6_begin_8 : decode cX6_begin 8 = .ok (.aload_n 0, 1) := by decide +kernel
theorem dX6_begin_9 : decode cX6_begin 9 = .ok (.iconst 1, 1) := by decide +kernel
theorem dX6_begin_10 : decode cX6_begin 10 = .ok (.putfield 39, 3) := by decide +kernel
theorem dX6_begin_13 : decode cX6_begin 13 = .ok (.aload_n 0, 1) := by decide +kernel
theorem dX6_begin_14 : decode cX6_begin 14 = .ok (.aload_n 1, 1) := by decide +kernel
theorem dX6_begin_15 : decode cX6_begin 15 = .ok (.getfield 61, 3) := by decide +kernel
theorem dX6_begin_18 : decode cX6_begin 18 = .ok (.putfield 36, 3) := by decide +kernel
theorem dX6_begin_21 : decode cX6_begin 21 = .ok (.aload_n 0, 1) := by decide +kernel
theorem dX6_begin_22 : decode cX6_begin 22 = .ok (.iconst 0, 1) := by decide +kernel
theorem dX6_begin_23 : decode cX6_begin 23 = .ok (.putfield 43, 3) := by decide +kernel
theorem dX6_begin_26 : decode cX6_begin 26 = .ok (.aload_n 0, 1) := by decide +kernel
theorem dX6_begin_27 : decode cX6_begin 27 = .ok (.iconst 0, 1) := by decide +kernel
theorem dX6_begin_28 : decode cX6_begin 28 = .ok (.putfield 46, 3) := by decide +kernel
theorem dX6_begin_31 : decode cX6_begin 31 = .ok (.return_, 1) := by decide +kernel
set_option maxRecDepth 20000 in
theorem ggX6_place_X3_lack : GoodIn wsX6_place wsX3_lack := goodIn_r _ [12, 13, 14, 15, 16, 17, 18, 19, 20, 21, 22, 23, 24, 25, 26, 27, 28, 48, 49] (by decide +kernel) (by decide +kernel)
set_option maxRecDepth 20000 in
theorem gX6_place_X3_lack_n64 : GoodIn wsX6_place (wsX3_lack) := ggX6_place_X3_lack
set_option maxRecDepth 20000 in
theorem ggX6_place_X3_width : GoodIn wsX6_place wsX3_width := goodIn_r _ [31, 13, 20, 21, 17, 22, 23, 24, 25, 48, 49] (by decide +kernel) (by decide +kernel)
set_option maxRecDepth 20000 in
theorem gX6_place_X3_width_n68 : GoodIn wsX6_place (wsX3_width) := ggX6_place_X3_width
set_option maxRecDepth 20000 in
theorem ggX6_place_X3_leave : GoodIn wsX6_place wsX3_leave := goodIn_r _ [34, 13, 35, 36, 37, 38, 14, 15, 16, 17, 18, 19, 26, 27, 28, 48, 49] (by decide +kernel) (by decide +kernel)
set_option maxRecDepth 20000 in
theorem gX6_place_X3_leave_n75 : GoodIn wsX6_place (wsX3_leave) := ggX6_place_X3_leave
theorem dX6_place_0 : decode cX6_place 0 = .ok (.aload_n 0, 1) := by decide +kernel
theorem dX6_place_1 : decode cX6_place 1 = .ok (.getfield 25, 3) := by decide +kernel
theorem dX6_place_4 : decode cX6_place 4 = .ok (.iload_n 1, 1) := by decide +kernel
theorem dX6_place_5 : decode cX6_place 5 = .ok (.iload_n 2, 1) := by decide +kernel
theorem dX6_place_6 : decode cX6_place 6 = .ok (.iastore, 1) := by decide +kernel
theorem dX6_place_7 : decode cX6_place 7 = .ok (.aload_n 0, 1) := by decide +kernel
theorem dX6_place_8 : decode cX6_place 8 = .ok (.dup, 1) := by decide +kernel
theorem dX6_place_9 : decode cX6_place 9 = .ok (.getfield 43, 3) := by decide +kernel
theorem dX6_place_12 : decode cX6_place 12 = .ok (.aload_n 0, 1) := by decide +kernel
theorem dX6_place_13 : decode cX6_place 13 = .ok (.getfield 12, 3) := by decide +kernel
theorem dX6_place_16 : decode cX6_place 16 = .ok (.iload_n 1, 1) := by decide +kernel
theorem dX6_place_17 : decode cX6_place 17 = .ok (.iload_n 2, 1) := by decide +kernel
theorem dX6_place_18 : decode cX6_place 18 = .ok (.invokevirtual 64, 3) := by decide +kernel
theorem dX6_place_21 : decode cX6_place 21 = .ok (.iadd, 1) := by decide +kernel
theorem dX6_place_22 : decode cX6_place 22 = .ok (.putfield 43, 3) := by decide +kernel
theorem dX6_place_25 : decode cX6_place 25 = .ok (.aload_n 0, 1) := by decide +kernel
theorem dX6_place_26 : decode cX6_place 26 = .ok (.aload_n 0, 1) := by decide +kernel
theorem dX6_place_27 : decode cX6_place 27 = .ok (.getfield 46, 3) := by decide +kernel
theorem dX6_place_30 : decode cX6_place 30 = .ok (.aload_n 0, 1) := by decide +kernel
theorem dX6_place_31 : decode cX6_place 31 = .ok (.getfield 12, 3) := by decide +kernel
theorem dX6_place_34 : decode cX6_place 34 = .ok (.iload_n 1, 1) := by decide +kernel
theorem dX6_place_35 : decode cX6_place 35 = .ok (.iload_n 2, 1) := by decide +kernel
theorem dX6_place_36 : decode cX6_place 36 = .ok (.invokevirtual 68, 3) := by decide +kernel
theorem dX6_place_39 : decode cX6_place 39 = .ok (.invokestatic 70, 3) := by decide +kernel
theorem dX6_place_42 : decode cX6_place 42 = .ok (.putfield 46, 3) := by decide +kernel
theorem dX6_place_45 : decode cX6_place 45 = .ok (.aload_n 0, 1) := by decide +kernel
theorem dX6_place_46 : decode cX6_place 46 = .ok (.getfield 12, 3) := by decide +kernel
theorem dX6_place_49 : decode cX6_place 49 = .ok (.iload_n 1, 1) := by decide +kernel
theorem dX6_place_50 : decode cX6_place 50 = .ok (.iload_n 2, 1) := by decide +kernel
theorem dX6_place_51 : decode cX6_place 51 = .ok (.invokevirtual 75, 3) := by decide +kernel
theorem dX6_place_54 : decode cX6_place 54 = .ok (.return_, 1) := by decide +kernel
set_option maxRecDepth 20000 in
theorem ggX6_followDraft_X6_begin : GoodIn wsX6_followDraft wsX6_begin := goodIn_r _ [7, 8, 9, 1, 10, 11, 12, 13, 14, 15, 16, 17, 18, 19, 20, 21, 54, 55, 56, 57, 58, 59, 60, 61, 62, 63, 64, 65, 66, 67] (by decide +kernel) (by decide +kernel)
set_option maxRecDepth 20000 in
theorem gX6_followDraft_X6_begin : GoodIn wsX6_followDraft (wsV RX6 79 RX6 yX6_begin wsX6_begin) := goodIn_app (goodIn_of _ (by decide +kernel)) ggX6_followDraft_X6_begin
set_option maxRecDepth 20000 in
theorem ggX6_followDraft_X6_place : GoodIn wsX6_followDraft wsX6_place := goodIn_r _ [25, 26, 10, 8, 11, 27, 28, 29, 30, 31, 13, 32, 33, 17, 16, 34, 35, 36, 37, 38, 39, 40, 41, 42, 43, 44, 45, 46, 47, 48, 49, 50, 51, 52, 53, 18, 19, 20, 21, 54, 55, 56, 57, 58, 59, 60, 61, 62, 66, 67] (by decide +kernel) (by decide +kernel)
set_option maxRecDepth 20000 in
theorem gX6_followDraft_X6_place : GoodIn wsX6_followDraft (wsV RX6 82 RX6 yX6_place wsX6_place) := goodIn_app (goodIn_of _ (by decide +kernel)) ggX6_followDraft_X6_place
theorem dX6_followDraft_0 : decode cX6_followDraft 0 = .ok (.aload_n 0, 1) := by decide +kernel
theorem dX6_followDraft_1 : decode cX6_followDraft 1 = .ok (.aload_n 1, 1) := by decide +kernel
theorem dX6_followDraft_2 : decode cX6_followDraft 2 = .ok (.invokevirtual 79, 3) := by decide +kernel
theorem dX6_followDraft_5 : decode cX6_followDraft 5 = .ok (.iconst 0, 1) := by decide +kernel
theorem dX6_followDraft_6 : decode cX6_followDraft 6 = .ok (.istore_n 2, 1) := by decide +kernel
theorem dX6_followDraft_7 : decode cX6_followDraft 7 = .ok (.iload_n 2, 1) := by decide +kernel
theorem dX6_followDraft_8 : decode cX6_followDraft 8 = .ok (.aload_n 0, 1) := by decide +kernel
theorem dX6_followDraft_9 : decode cX6_followDraft 9 = .ok (.getfield 36, 3) := by decide +kernel
theorem dX6_followDraft_12 : decode cX6_followDraft 12 = .ok (.if_icmp .ge 20, 3) := by decide +kernel
theorem dX6_followDraft_15 : decode cX6_followDraft 15 = .ok (.aload_n 0, 1) := by decide +kernel
theorem dX6_followDraft_16 : decode cX6_followDraft 16 = .ok (.iload_n 2, 1) := by decide +kernel
theorem dX6_followDraft_17 : decode cX6_followDraft 17 = .ok (.aload_n 0, 1) := by decide +kernel
theorem dX6_followDraft_18 : decode cX6_followDraft 18 = .ok (.getfield 29, 3) := by decide +kernel
theorem dX6_followDraft_21 : decode cX6_followDraft 21 = .ok (.iload_n 2, 1) := by decide +kernel
theorem dX6_followDraft_22 : decode cX6_followDraft 22 = .ok (.iaload, 1) := by decide +kernel
theorem dX6_followDraft_23 : decode cX6_followDraft 23 = .ok (.invokevirtual 82, 3) := by decide +kernel
theorem dX6_followDraft_26 : decode cX6_followDraft 26 = .ok (.iinc 2 1, 3) := by decide +kernel
theorem dX6_followDraft_29 : decode cX6_followDraft 29 = .ok (.goto (-22), 3) := by decide +kernel
theorem dX6_followDraft_32 : decode cX6_followDraft 32 = .ok (.return_, 1) := by decide +kernel
set_option maxRecDepth 20000 in
theorem ggX6_followRule_X6_begin : GoodIn wsX6_followRule wsX6_begin := goodIn_r _ [7, 2, 8, 1, 9, 10, 11, 12, 13, 14, 15, 16, 17, 18, 19, 20, 73, 74, 75, 76, 77, 78, 79, 80, 81, 82, 83, 84, 85, 86] (by decide +kernel) (by decide +kernel)
set_option maxRecDepth 20000 in
theorem gX6_followRule_X6_begin : GoodIn wsX6_followRule (wsV RX6 79 RX6 yX6_begin wsX6_begin) := goodIn_app (goodIn_of _ (by decide +kernel)) ggX6_followRule_X6_begin
set_option maxRecDepth 20000 in
theorem ggX6_followRule_X4_all : GoodIn wsX6_followRule wsX4_all := goodIn_r _ [24, 25, 82, 83, 84] (by decide +kernel) (by decide +kernel)
set_option maxRecDepth 20000 in
theorem gX6_followRule_X4_all_n85 : GoodIn wsX6_followRule (wsX4_all) := ggX6_followRule_X4_all
set_option maxRecDepth 20000 in
theorem ggX6_followRule_X3_cheapest : GoodIn wsX6_followRule wsX3_cheapest := goodIn_r _ [28, 15, 29, 30, 31, 32, 33, 34, 12, 35, 36, 37, 38, 39, 16, 40, 41, 42, 43, 44, 45, 46, 47, 48, 49, 50, 51, 52, 53, 54, 55, 56, 57, 58, 59, 60, 85, 86] (by decide +kernel) (by decide +kernel)
set_option maxRecDepth 20000 in
theorem gX6_followRule_X3_cheapest_n88 : GoodIn wsX6_followRule (wsX3_cheapest) := ggX6_followRule_X3_cheapest
set_option maxRecDepth 20000 in
theorem ggX6_followRule_X6_place : GoodIn wsX6_followRule wsX6_place := goodIn_r _ [64, 65, 9, 2, 10, 66, 67, 68, 69, 58, 12, 59, 60, 16, 15, 40, 41, 42, 43, 44, 51, 52, 53, 54, 55, 56, 45, 30, 46, 48, 49, 50, 70, 71, 72, 17, 18, 19, 20, 73, 74, 75, 76, 77, 78, 79, 80, 81, 85, 86] (by decide +kernel) (by decide +kernel)
set_option maxRecDepth 20000 in
theorem gX6_followRule_X6_place : GoodIn wsX6_followRule (wsV RX6 82 RX6 yX6_place wsX6_place) := goodIn_app (goodIn_of _ (by decide +kernel)) ggX6_followRule_X6_place
theorem dX6_followRule_0 : decode cX6_followRule 0 = .ok (.aload_n 0, 1) := by decide +kernel
theorem dX6_followRule_1 : decode cX6_followRule 1 = .ok (.aload_n 1, 1) := by decide +kernel
theorem dX6_followRule_2 : decode cX6_followRule 2 = .ok (.invokevirtual 79, 3) := by decide +kernel
theorem dX6_followRule_5 : decode cX6_followRule 5 = .ok (.aload_n 1, 1) := by decide +kernel
theorem dX6_followRule_6 : decode cX6_followRule 6 = .ok (.invokevirtual 85, 3) := by decide +kernel
theorem dX6_followRule_9 : decode cX6_followRule 9 = .ok (.istore_n 3, 1) := by decide +kernel
theorem dX6_followRule_10 : decode cX6_followRule 10 = .ok (.iconst 0, 1) := by decide +kernel
theorem dX6_followRule_11 : decode cX6_followRule 11 = .ok (.istore 4, 2) := by decide +kernel
theorem dX6_followRule_13 : decode cX6_followRule 13 = .ok (.iload 4, 2) := by decide +kernel
theorem dX6_followRule_15 : decode cX6_followRule 15 = .ok (.aload_n 0, 1) := by decide +kernel
theorem dX6_followRule_16 : decode cX6_followRule 16 = .ok (.getfield 36, 3) := by decide +kernel
theorem dX6_followRule_19 : decode cX6_followRule 19 = .ok (.if_icmp .ge 39, 3) := by decide +kernel
theorem dX6_followRule_22 : decode cX6_followRule 22 = .ok (.aload_n 0, 1) := by decide +kernel
theorem dX6_followRule_23 : decode cX6_followRule 23 = .ok (.getfield 12, 3) := by decide +kernel
theorem dX6_followRule_26 : decode cX6_followRule 26 = .ok (.iload_n 2, 1) := by decide +kernel
theorem dX6_followRule_27 : decode cX6_followRule 27 = .ok (.iload 4, 2) := by decide +kernel
theorem dX6_followRule_29 : decode cX6_followRule 29 = .ok (.iload_n 3, 1) := by decide +kernel
theorem dX6_followRule_30 : decode cX6_followRule 30 = .ok (.invokevirtual 88, 3) := by decide +kernel
theorem dX6_followRule_33 : decode cX6_followRule 33 = .ok (.istore 5, 2) := by decide +kernel
theorem dX6_followRule_35 : decode cX6_followRule 35 = .ok (.aload_n 0, 1) := by decide +kernel
theorem dX6_followRule_36 : decode cX6_followRule 36 = .ok (.iload 4, 2) := by decide +kernel
theorem dX6_followRule_38 : decode cX6_followRule 38 = .ok (.iload 5, 2) := by decide +kernel
theorem dX6_followRule_40 : decode cX6_followRule 40 = .ok (.invokevirtual 82, 3) := by decide +kernel
theorem dX6_followRule_43 : decode cX6_followRule 43 = .ok (.iload_n 3, 1) := by decide +kernel
theorem dX6_followRule_44 : decode cX6_followRule 44 = .ok (.iconst 1, 1) := by decide +kernel
theorem dX6_followRule_45 : decode cX6_followRule 45 = .ok (.iload 5, 2) := by decide +kernel
theorem dX6_followRule_47 : decode cX6_followRule 47 = .ok (.ishl, 1) := by decide +kernel
theorem dX6_followRule_48 : decode cX6_followRule 48 = .ok (.iconst (-1), 1) := by decide +kernel
theorem dX6_followRule_49 : decode cX6_followRule 49 = .ok (.ixor, 1) := by decide +kernel
theorem dX6_followRule_50 : decode cX6_followRule 50 = .ok (.iand, 1) := by decide +kernel
theorem dX6_followRule_51 : decode cX6_followRule 51 = .ok (.istore_n 3, 1) := by decide +kernel
theorem dX6_followRule_52 : decode cX6_followRule 52 = .ok (.iinc 4 1, 3) := by decide +kernel
theorem dX6_followRule_55 : decode cX6_followRule 55 = .ok (.goto (-42), 3) := by decide +kernel
theorem dX6_followRule_58 : decode cX6_followRule 58 = .ok (.return_, 1) := by decide +kernel
set_option maxRecDepth 20000 in
theorem ggX6_followLeast_X6_begin : GoodIn wsX6_followLeast wsX6_begin := goodIn_r _ [8, 9, 10, 2, 3, 11, 12, 13, 14, 15, 16, 17, 18, 19, 20, 21, 119, 120, 121, 122, 123, 124, 125, 126, 127, 128, 129, 130, 131, 132] (by decide +kernel) (by decide +kernel)
set_option maxRecDepth 20000 in
theorem gX6_followLeast_X6_begin : GoodIn wsX6_followLeast (wsV RX6 79 RX6 yX6_begin wsX6_begin) := goodIn_app (goodIn_of _ (by decide +kernel)) ggX6_followLeast_X6_begin
set_option maxRecDepth 20000 in
theorem ggX6_followLeast_X5_begin : GoodIn wsX6_followLeast wsX5_begin := goodIn_r _ [25, 26, 27, 28, 29, 30, 12, 13, 14, 15, 16, 17, 18, 19, 20, 21, 31, 32, 33, 34, 35, 36, 37, 38, 39, 40, 41, 42, 43, 44, 23, 45, 46, 47, 48, 49, 50, 51, 52, 53, 54, 55, 56, 57, 58, 59, 60, 61, 62, 63, 64, 65, 66, 67, 68, 69, 70, 71, 72, 73, 74, 75, 76, 77, 78, 79, 80, 81, 82, 83, 84, 85, 86, 87, 88, 89, 90, 91, 92, 93, 94, 95, 96, 97, 98, 99, 100, 101, 102, 103, 104, 105, 106, 107, 108, 109, 133, 134, 135, 136, 137, 138, 128, 129, 130, 131, 132] (by decide +kernel) (by decide +kernel)
set_option maxRecDepth 20000 in
theorem gX6_followLeast_X5_begin_n92 : GoodIn wsX6_followLeast (wsX5_begin) := ggX6_followLeast_X5_begin
set_option maxRecDepth 20000 in
theorem ggX6_followLeast_X5_letFirstGo : GoodIn wsX6_followLeast wsX5_letFirstGo := goodIn_r _ [112, 29, 26, 27, 55, 56, 57, 58, 13, 59, 60, 61, 62, 63, 64, 17, 16, 65, 66, 67, 68, 69, 70, 71, 72, 73, 74, 75, 76, 77, 78, 79, 80, 81, 82, 83, 84, 85, 100, 101, 102, 18, 19, 20, 21, 43, 44, 23, 45, 30, 28, 46, 47, 48, 49, 50, 51, 52, 53, 54, 86, 87, 88, 89, 90, 91, 92, 93, 94, 95, 96, 97, 98, 99, 103, 104, 105, 106, 107, 108, 109, 133, 134, 135, 136, 137, 138, 131, 132] (by decide +kernel) (by decide +kernel)
set_option maxRecDepth 20000 in
theorem gX6_followLeast_X5_letFirstGo_n95 : GoodIn wsX6_followLeast (wsX5_letFirstGo) := ggX6_followLeast_X5_letFirstGo
set_option maxRecDepth 20000 in
theorem ggX6_followLeast_X6_place : GoodIn wsX6_followLeast wsX6_place := goodIn_r _ [116, 117, 3, 9, 11, 118, 108, 49, 109, 83, 13, 84, 85, 17, 16, 65, 66, 67, 68, 69, 76, 77, 78, 79, 80, 81, 70, 56, 71, 73, 74, 75, 100, 101, 102, 18, 19, 20, 21, 119, 120, 121, 122, 123, 124, 125, 126, 127, 131, 132] (by decide +kernel) (by decide +kernel)
set_option maxRecDepth 20000 in
theorem gX6_followLeast_X6_place : GoodIn wsX6_followLeast (wsV RX6 82 RX6 yX6_place wsX6_place) := goodIn_app (goodIn_of _ (by decide +kernel)) ggX6_followLeast_X6_place
theorem dX6_followLeast_0 : decode cX6_followLeast 0 = .ok (.aload_n 0, 1) := by decide +kernel
theorem dX6_followLeast_1 : decode cX6_followLeast 1 = .ok (.aload_n 1, 1) := by decide +kernel
theorem dX6_followLeast_2 : decode cX6_followLeast 2 = .ok (.invokevirtual 79, 3) := by decide +kernel
theorem dX6_followLeast_5 : decode cX6_followLeast 5 = .ok (.aload_n 0, 1) := by decide +kernel
theorem dX6_followLeast_6 : decode cX6_followLeast 6 = .ok (.getfield 21, 3) := by decide +kernel
theorem dX6_followLeast_9 : decode cX6_followLeast 9 = .ok (.aload_n 1, 1) := by decide +kernel
theorem dX6_followLeast_10 : decode cX6_followLeast 10 = .ok (.iload_n 2, 1) := by decide +kernel
theorem dX6_followLeast_11 : decode cX6_followLeast 11 = .ok (.invokevirtual 92, 3) := by decide +kernel
theorem dX6_followLeast_14 : decode cX6_followLeast 14 = .ok (.istore_n 3, 1) := by decide +kernel
theorem dX6_followLeast_15 : decode cX6_followLeast 15 = .ok (.iconst 0, 1) := by decide +kernel
theorem dX6_followLeast_16 : decode cX6_followLeast 16 = .ok (.istore 4, 2) := by decide +kernel
theorem dX6_followLeast_18 : decode cX6_followLeast 18 = .ok (.iconst 0, 1) := by decide +kernel
theorem dX6_followLeast_19 : decode cX6_followLeast 19 = .ok (.istore 5, 2) := by decide +kernel
theorem dX6_followLeast_21 : decode cX6_followLeast 21 = .ok (.iload 5, 2) := by decide +kernel
theorem dX6_followLeast_23 : decode cX6_followLeast 23 = .ok (.aload_n 0, 1) := by decide +kernel
theorem dX6_followLeast_24 : decode cX6_followLeast 24 = .ok (.getfield 36, 3) := by decide +kernel
theorem dX6_followLeast_27 : decode cX6_followLeast 27 = .ok (.if_icmp .ge 57, 3) := by decide +kernel
theorem dX6_followLeast_30 : decode cX6_followLeast 30 = .ok (.iload_n 2, 1) := by decide +kernel
theorem dX6_followLeast_31 : decode cX6_followLeast 31 = .ok (.ifCond .ne 12, 3) := by decide +kernel
theorem dX6_followLeast_34 : decode cX6_followLeast 34 = .ok (.iload_n 3, 1) := by decide +kernel
theorem dX6_followLeast_35 : decode cX6_followLeast 35 = .ok (.aload_n 0, 1) := by decide +kernel
theorem dX6_followLeast_36 : decode cX6_followLeast 36 = .ok (.getfield 43, 3) := by decide +kernel
theorem dX6_followLeast_39 : decode cX6_followLeast 39 = .ok (.isub, 1) := by decide +kernel
theorem dX6_followLeast_40 : decode cX6_followLeast 40 = .ok (.goto 4, 3) := by decide +kernel
theorem dX6_followLeast_43 : decode cX6_followLeast 43 = .ok (.iload_n 3, 1) := by decide +kernel
theorem dX6_followLeast_44 : decode cX6_followLeast 44 = .ok (.istore 6, 2) := by decide +kernel
theorem dX6_followLeast_46 : decode cX6_followLeast 46 = .ok (.aload_n 0, 1) := by decide +kernel
theorem dX6_followLeast_47 : decode cX6_followLeast 47 = .ok (.getfield 21, 3) := by decide +kernel
theorem dX6_followLeast_50 : decode cX6_followLeast 50 = .ok (.iload 4, 2) := by decide +kernel
theorem dX6_followLeast_52 : decode cX6_followLeast 52 = .ok (.iload 5, 2) := by decide +kernel
theorem dX6_followLeast_54 : decode cX6_followLeast 54 = .ok (.iload 6, 2) := by decide +kernel
theorem dX6_followLeast_56 : decode cX6_followLeast 56 = .ok (.invokevirtual 95, 3) := by decide +kernel
theorem dX6_followLeast_59 : decode cX6_followLeast 59 = .ok (.istore 7, 2) := by decide +kernel
theorem dX6_followLeast_61 : decode cX6_followLeast 61 = .ok (.aload_n 0, 1) := by decide +kernel
theorem dX6_followLeast_62 : decode cX6_followLeast 62 = .ok (.iload 5, 2) := by decide +kernel
theorem dX6_followLeast_64 : decode cX6_followLeast 64 = .ok (.iload 7, 2) := by decide +kernel
theorem dX6_followLeast_66 : decode cX6_followLeast 66 = .ok (.invokevirtual 82, 3) := by decide +kernel
theorem dX6_followLeast_69 : decode cX6_followLeast 69 = .ok (.iload 4, 2) := by decide +kernel
theorem dX6_followLeast_71 : decode cX6_followLeast 71 = .ok (.iconst 1, 1) := by decide +kernel
theorem dX6_followLeast_72 : decode cX6_followLeast 72 = .ok (.iload 7, 2) := by decide +kernel
theorem dX6_followLeast_74 : decode cX6_followLeast 74 = .ok (.ishl, 1) := by decide +kernel
theorem dX6_followLeast_75 : decode cX6_followLeast 75 = .ok (.ior, 1) := by decide +kernel
theorem dX6_followLeast_76 : decode cX6_followLeast 76 = .ok (.istore 4, 2) := by decide +kernel
theorem dX6_followLeast_78 : decode cX6_followLeast 78 = .ok (.iinc 5 1, 3) := by decide +kernel
theorem dX6_followLeast_81 : decode cX6_followLeast 81 = .ok (.goto (-60), 3) := by decide +kernel
theorem dX6_followLeast_84 : decode cX6_followLeast 84 = .ok (.return_, 1) := by decide +kernel
set_option maxRecDepth 20000 in
theorem ggX6_fillIn_X3_start : GoodIn wsX6_fillIn wsX3_start := goodIn_r _ [7, 8, 9, 10, 11, 12, 13, 45, 46, 47, 43, 44] (by decide +kernel) (by decide +kernel)
set_option maxRecDepth 20000 in
theorem gX6_fillIn_X3_start_n57 : GoodIn wsX6_fillIn (wsX3_start) := ggX6_fillIn_X3_start
set_option maxRecDepth 20000 in
theorem ggX6_fillIn_X4_joinAll : GoodIn wsX6_fillIn wsX4_joinAll := goodIn_r _ [17, 18, 19, 20, 21, 22, 23, 45, 46, 47] (by decide +kernel) (by decide +kernel)
set_option maxRecDepth 20000 in
theorem gX6_fillIn_X4_joinAll_n102 : GoodIn wsX6_fillIn (wsX4_joinAll) := ggX6_fillIn_X4_joinAll
set_option maxRecDepth 20000 in
theorem ggX6_fillIn_X3_leave : GoodIn wsX6_fillIn wsX3_leave := goodIn_r _ [26, 9, 10, 11, 12, 13, 8, 27, 28, 29, 30, 31, 32, 22, 33, 43, 44] (by decide +kernel) (by decide +kernel)
set_option maxRecDepth 20000 in
theorem gX6_fillIn_X3_leave_n75 : GoodIn wsX6_fillIn (wsX3_leave) := ggX6_fillIn_X3_leave
theorem dX6_fillIn_0 : decode cX6_fillIn 0 = .ok (.aload_n 0, 1) := by decide +kernel
theorem dX6_fillIn_1 : decode cX6_fillIn 1 = .ok (.getfield 12, 3) := by decide +kernel
theorem dX6_fillIn_4 : decode cX6_fillIn 4 = .ok (.aload_n 1, 1) := by decide +kernel
theorem dX6_fillIn_5 : decode cX6_fillIn 5 = .ok (.invokevirtual 57, 3) := by decide +kernel
theorem dX6_fillIn_8 : decode cX6_fillIn 8 = .ok (.iconst 0, 1) := by decide +kernel
theorem dX6_fillIn_9 : decode cX6_fillIn 9 = .ok (.istore_n 2, 1) := by decide +kernel
theorem dX6_fillIn_10 : decode cX6_fillIn 10 = .ok (.iload_n 2, 1) := by decide +kernel
theorem dX6_fillIn_11 : decode cX6_fillIn 11 = .ok (.aload_n 0, 1) := by decide +kernel
theorem dX6_fillIn_12 : decode cX6_fillIn 12 = .ok (.getfield 36, 3) := by decide +kernel
theorem dX6_fillIn_15 : decode cX6_fillIn 15 = .ok (.if_icmp .ge 43, 3) := by decide +kernel
theorem dX6_fillIn_18 : decode cX6_fillIn 18 = .ok (.aload_n 1, 1) := by decide +kernel
theorem dX6_fillIn_19 : decode cX6_fillIn 19 = .ok (.aload_n 0, 1) := by decide +kernel
theorem dX6_fillIn_20 : decode cX6_fillIn 20 = .ok (.getfield 12, 3) := by decide +kernel
theorem dX6_fillIn_23 : decode cX6_fillIn 23 = .ok (.getfield 98, 3) := by decide +kernel
theorem dX6_fillIn_26 : decode cX6_fillIn 26 = .ok (.iload_n 2, 1) := by decide +kernel
theorem dX6_fillIn_27 : decode cX6_fillIn 27 = .ok (.aaload, 1) := by decide +kernel
theorem dX6_fillIn_28 : decode cX6_fillIn 28 = .ok (.aload_n 0, 1) := by decide +kernel
theorem dX6_fillIn_29 : decode cX6_fillIn 29 = .ok (.getfield 25, 3) := by decide +kernel
theorem dX6_fillIn_32 : decode cX6_fillIn 32 = .ok (.iload_n 2, 1) := by decide +kernel
theorem dX6_fillIn_33 : decode cX6_fillIn 33 = .ok (.iaload, 1) := by decide +kernel
theorem dX6_fillIn_34 : decode cX6_fillIn 34 = .ok (.iaload, 1) := by decide +kernel
theorem dX6_fillIn_35 : decode cX6_fillIn 35 = .ok (.invokevirtual 102, 3) := by decide +kernel
theorem dX6_fillIn_38 : decode cX6_fillIn 38 = .ok (.aload_n 0, 1) := by decide +kernel
theorem dX6_fillIn_39 : decode cX6_fillIn 39 = .ok (.getfield 12, 3) := by decide +kernel
theorem dX6_fillIn_42 : decode cX6_fillIn 42 = .ok (.iload_n 2, 1) := by decide +kernel
theorem dX6_fillIn_43 : decode cX6_fillIn 43 = .ok (.aload_n 0, 1) := by decide +kernel
theorem dX6_fillIn_44 : decode cX6_fillIn 44 = .ok (.getfield 25, 3) := by decide +kernel
theorem dX6_fillIn_47 : decode cX6_fillIn 47 = .ok (.iload_n 2, 1) := by decide +kernel
theorem dX6_fillIn_48 : decode cX6_fillIn 48 = .ok (.iaload, 1) := by decide +kernel
theorem dX6_fillIn_49 : decode cX6_fillIn 49 = .ok (.invokevirtual 75, 3) := by decide +kernel
theorem dX6_fillIn_52 : decode cX6_fillIn 52 = .ok (.iinc 2 1, 3) := by decide +kernel
theorem dX6_fillIn_55 : decode cX6_fillIn 55 = .ok (.goto (-45), 3) := by decide +kernel
theorem dX6_fillIn_58 : decode cX6_fillIn 58 = .ok (.return_, 1) := by decide +kernel
theorem dX7_init_0 : decode cX7_init 0 = .ok (.aload_n 0, 1) := by decide +kernel
theorem dX7_init_1 : decode cX7_init 1 = .ok (.invokespecial 3, 3) := by decide +kernel
theorem dX7_init_4 : decode cX7_init 4 = .ok (.aload_n 0, 1) := by decide +kernel
theorem dX7_init_5 : decode cX7_init 5 = .ok (.bipush 12, 2) := by decide +kernel
theorem dX7_init_7 : decode cX7_init 7 = .ok (.newarray .int, 2) := by decide +kernel
theorem dX7_init_9 : decode cX7_init 9 = .ok (.putfield 9, 3) := by decide +kernel
theorem dX7_init_12 : decode cX7_init 12 = .ok (.aload_n 0, 1) := by decide +kernel
theorem dX7_init_13 : decode cX7_init 13 = .ok (.bipush 12, 2) := by decide +kernel
theorem dX7_init_15 : decode cX7_init 15 = .ok (.newarray .int, 2) := by decide +kernel
theorem dX7_init_17 : decode cX7_init 17 = .ok (.putfield 15, 3) := by decide +kernel
theorem dX7_init_20 : decode cX7_init 20 = .ok (.aload_n 0, 1) := by decide +kernel
theorem dX7_init_21 : decode cX7_init 21 = .ok (.iconst 0, 1) := by decide +kernel
theorem dX7_init_22 : decode cX7_init 22 = .ok (.putfield 18, 3) := by decide +kernel
theorem dX7_init_25 : decode cX7_init 25 = .ok (.aload_n 0, 1) := by decide +kernel
theorem dX7_init_26 : decode cX7_init 26 = .ok (.iconst (-1), 1) := by decide +kernel
theorem dX7_init_27 : decode cX7_init 27 = .ok (.putfield 22, 3) := by decide +kernel
theorem dX7_init_30 : decode cX7_init 30 = .ok (.return_, 1) := by decide +kernel
set_option maxRecDepth 20000 in
theorem ggX7_bring_J7_fill_53178 : GoodIn wsX7_bring wsJ7_fill_53178 := goodIn_r _ [7] (by decide +kernel) (by decide +kernel)
set_option maxRecDepth 20000 in
theorem gX7_bring_J7_fill_53178 : GoodIn wsX7_bring (va_wsS RX7 33 yJ7_fill_53178 wsJ7_fill_53178) := goodIn_app (goodIn_of _ (by decide +kernel)) ggX7_bring_J7_fill_53178
set_option maxRecDepth 20000 in
theorem ggX7_bring_X7_paints : GoodIn wsX7_bring wsX7_paints := goodIn_r _ [11, 3, 2, 12, 13, 14, 15, 16, 8, 9, 10, 21, 22, 23, 17, 18, 19, 20] (by decide +kernel) (by decide +kernel)
set_option maxRecDepth 20000 in
theorem gX7_bring_X7_paints : GoodIn wsX7_bring (va_wsS RX7 39 yX7_paints wsX7_paints) := goodIn_app (goodIn_of _ (by decide +kernel)) ggX7_bring_X7_paints
theorem dX7_bring_0 : decode cX7_bring 0 = .ok (.aload_n 0, 1) := by decide +kernel
theorem dX7_bring_1 : decode cX7_bring 1 = .ok (.getfield 22, 3) := by decide +kernel
theorem dX7_bring_4 : decode cX7_bring 4 = .ok (.aload_n 1, 1) := by decide +kernel
theorem dX7_bring_5 : decode cX7_bring 5 = .ok (.getfield 25, 3) := by decide +kernel
theorem dX7_bring_8 : decode cX7_bring 8 = .ok (.if_icmp .ne 4, 3) := by decide +kernel
theorem dX7_bring_11 : decode cX7_bring 11 = .ok (.return_, 1) := by decide +kernel
theorem dX7_bring_12 : decode cX7_bring 12 = .ok (.aload_n 0, 1) := by decide +kernel
theorem dX7_bring_13 : decode cX7_bring 13 = .ok (.aload_n 1, 1) := by decide +kernel
theorem dX7_bring_14 : decode cX7_bring 14 = .ok (.getfield 25, 3) := by decide +kernel
theorem dX7_bring_17 : decode cX7_bring 17 = .ok (.putfield 22, 3) := by decide +kernel
theorem dX7_bring_20 : decode cX7_bring 20 = .ok (.iload_n 2, 1) := by decide +kernel
theorem dX7_bring_21 : decode cX7_bring 21 = .ok (.istore_n 3, 1) := by decide +kernel
theorem dX7_bring_22 : decode cX7_bring 22 = .ok (.iload_n 3, 1) := by decide +kernel
theorem dX7_bring_23 : decode cX7_bring 23 = .ok (.aload_n 1, 1) := by decide +kernel
theorem dX7_bring_24 : decode cX7_bring 24 = .ok (.getfield 30, 3) := by decide +kernel
theorem dX7_bring_27 : decode cX7_bring 27 = .ok (.if_icmp .gt 33, 3) := by decide +kernel
theorem dX7_bring_30 : decode cX7_bring 30 = .ok (.aload_n 0, 1) := by decide +kernel
theorem dX7_bring_31 : decode cX7_bring 31 = .ok (.getfield 15, 3) := by decide +kernel
theorem dX7_bring_34 : decode cX7_bring 34 = .ok (.iconst 0, 1) := by decide +kernel
theorem dX7_bring_35 : decode cX7_bring 35 = .ok (.invokestatic 33, 3) := by decide +kernel
theorem dX7_bring_38 : decode cX7_bring 38 = .ok (.aload_n 0, 1) := by decide +kernel
theorem dX7_bring_39 : decode cX7_bring 39 = .ok (.iload_n 3, 1) := by decide +kernel
theorem dX7_bring_40 : decode cX7_bring 40 = .ok (.putfield 18, 3) := by decide +kernel
theorem dX7_bring_43 : decode cX7_bring 43 = .ok (.aload_n 0, 1) := by decide +kernel
theorem dX7_bring_44 : decode cX7_bring 44 = .ok (.aload_n 1, 1) := by decide +kernel
theorem dX7_bring_45 : decode cX7_bring 45 = .ok (.iconst 0, 1) := by decide +kernel
theorem dX7_bring_46 : decode cX7_bring 46 = .ok (.iconst 0, 1) := by decide +kernel
theorem dX7_bring_47 : decode cX7_bring 47 = .ok (.invokestatic 39, 3) := by decide +kernel
theorem dX7_bring_50 : decode cX7_bring 50 = .ok (.ifCond .eq 4, 3) := by decide +kernel
theorem dX7_bring_53 : decode cX7_bring 53 = .ok (.return_, 1) := by decide +kernel
theorem dX7_bring_54 : decode cX7_bring 54 = .ok (.iinc 3 1, 3) := by decide +kernel
theorem dX7_bring_57 : decode cX7_bring 57 = .ok (.goto (-35), 3) := by decide +kernel
theorem dX7_bring_60 : decode cX7_bring 60 = .ok (.return_, 1) := by decide +kernel
set_option maxRecDepth 20000 in
theorem ggX7_paints_X7_paints : GoodIn wsX7_paints wsX7_paints := goodIn_r _ [0, 1, 2, 3, 4, 5, 6, 7, 8, 9, 10, 11, 12, 13, 14, 15, 16, 17] (by decide +kernel) (by decide +kernel)
set_option maxRecDepth 20000 in
theorem gX7_paints_X7_paints : GoodIn wsX7_paints (va_wsS RX7 39 yX7_paints wsX7_paints) := goodIn_app (goodIn_of _ (by decide +kernel)) ggX7_paints_X7_paints
theorem dX7_paints_0 : decode cX7_paints 0 = .ok (.iload_n 2, 1) := by decide +kernel
theorem dX7_paints_1 : decode cX7_paints 1 = .ok (.aload_n 1, 1) := by decide +kernel
theorem dX7_paints_2 : decode cX7_paints 2 = .ok (.getfield 30, 3) := by decide +kernel
theorem dX7_paints_5 : decode cX7_paints 5 = .ok (.if_icmp .lt 5, 3) := by decide +kernel
theorem dX7_paints_8 : decode cX7_paints 8 = .ok (.iconst 1, 1) := by decide +kernel
theorem dX7_paints_9 : decode cX7_paints 9 = .ok (.ireturn, 1) := by decide +kernel
theorem dX7_paints_10 : decode cX7_paints 10 = .ok (.iconst 0, 1) := by decide +kernel
theorem dX7_paints_11 : decode cX7_paints 11 = .ok (.istore 4, 2) := by decide +kernel
theorem dX7_paints_13 : decode cX7_paints 13 = .ok (.iload 4, 2) := by decide +kernel
theorem dX7_paints_15 : decode cX7_paints 15 = .ok (.iload_n 3, 1) := by decide +kernel
theorem dX7_paints_16 : decode cX7_paints 16 = .ok (.if_icmp .gt 92, 3) := by decide +kernel
theorem dX7_paints_19 : decode cX7_paints 19 = .ok (.iload 4, 2) := by decide +kernel
theorem dX7_paints_21 : decode cX7_paints 21 = .ok (.aload_n 0, 1) := by decide +kernel
theorem dX7_paints_22 : decode cX7_paints 22 = .ok (.getfield 18, 3) := by decide +kernel
theorem dX7_paints_25 : decode cX7_paints 25 = .ok (.if_icmp .ge 83, 3) := by decide +kernel
theorem dX7_paints_28 : decode cX7_paints 28 = .ok (.aload_n 0, 1) := by decide +kernel
theorem dX7_paints_29 : decode cX7_paints 29 = .ok (.getfield 15, 3) := by decide +kernel
theorem dX7_paints_32 : decode cX7_paints 32 = .ok (.iload 4, 2) := by decide +kernel
theorem dX7_paints_34 : decode cX7_paints 34 = .ok (.iaload, 1) := by decide +kernel
theorem dX7_paints_35 : decode cX7_paints 35 = .ok (.aload_n 1, 1) := by decide +kernel
theorem dX7_paints_36 : decode cX7_paints 36 = .ok (.getfield 43, 3) := by decide +kernel
theorem dX7_paints_39 : decode cX7_paints 39 = .ok (.iload_n 2, 1) := by decide +kernel
theorem dX7_paints_40 : decode cX7_paints 40 = .ok (.iaload, 1) := by decide +kernel
theorem dX7_paints_41 : decode cX7_paints 41 = .ok (.iand, 1) := by decide +kernel
theorem dX7_paints_42 : decode cX7_paints 42 = .ok (.ifCond .ne 60, 3) := by decide +kernel
theorem dX7_paints_45 : decode cX7_paints 45 = .ok (.aload_n 0, 1) := by decide +kernel
theorem dX7_paints_46 : decode cX7_paints 46 = .ok (.getfield 15, 3) := by decide +kernel
theorem dX7_paints_49 : decode cX7_paints 49 = .ok (.iload 4, 2) := by decide +kernel
theorem dX7_paints_51 : decode cX7_paints 51 = .ok (.dup2, 1) := by decide +kernel
theorem dX7_paints_52 : decode cX7_paints 52 = .ok (.iaload, 1) := by decide +kernel
theorem dX7_paints_53 : decode cX7_paints 53 = .ok (.iconst 1, 1) := by decide +kernel
theorem dX7_paints_54 : decode cX7_paints 54 = .ok (.iload_n 2, 1) := by decide +kernel
theorem dX7_paints_55 : decode cX7_paints 55 = .ok (.ishl, 1) := by decide +kernel
theorem dX7_paints_56 : decode cX7_paints 56 = .ok (.ior, 1) := by decide +kernel
theorem dX7_paints_57 : decode cX7_paints 57 = .ok (.iastore, 1) := by decide +kernel
theorem dX7_paints_58 : decode cX7_paints 58 = .ok (.aload_n 0, 1) := by decide +kernel
theorem dX7_paints_59 : decode cX7_paints 59 = .ok (.getfield 9, 3) := by decide +kernel
theorem dX7_paints_62 : decode cX7_paints 62 = .ok (.iload_n 2, 1) := by decide +kernel
theorem dX7_paints_63 : decode cX7_paints 63 = .ok (.iload 4, 2) := by decide +kernel
theorem dX7_paints_65 : decode cX7_paints 65 = .ok (.iastore, 1) := by decide +kernel
theorem dX7_paints_66 : decode cX7_paints 66 = .ok (.aload_n 0, 1) := by decide +kernel
theorem dX7_paints_67 : decode cX7_paints 67 = .ok (.aload_n 1, 1) := by decide +kernel
theorem dX7_paints_68 : decode cX7_paints 68 = .ok (.iload_n 2, 1) := by decide +kernel
theorem dX7_paints_69 : decode cX7_paints 69 = .ok (.iconst 1, 1) := by decide +kernel
theorem dX7_paints_70 : decode cX7_paints 70 = .ok (.iadd, 1) := by decide +kernel
theorem dX7_paints_71 : decode cX7_paints 71 = .ok (.iload_n 3, 1) := by decide +kernel
theorem dX7_paints_72 : decode cX7_paints 72 = .ok (.iload 4, 2) := by decide +kernel
theorem dX7_paints_74 : decode cX7_paints 74 = .ok (.iconst 1, 1) := by decide +kernel
theorem dX7_paints_75 : decode cX7_paints 75 = .ok (.iadd, 1) := by decide +kernel
theorem dX7_paints_76 : decode cX7_paints 76 = .ok (.invokestatic 46, 3) := by decide +kernel
theorem dX7_paints_79 : decode cX7_paints 79 = .ok (.invokestatic 39, 3) := by decide +kernel
theorem dX7_paints_82 : decode cX7_paints 82 = .ok (.ifCond .eq 5, 3) := by decide +kernel
theorem dX7_paints_85 : decode cX7_paints 85 = .ok (.iconst 1, 1) := by decide +kernel
theorem dX7_paints_86 : decode cX7_paints 86 = .ok (.ireturn, 1) := by decide +kernel
theorem dX7_paints_87 : decode cX7_paints 87 = .ok (.aload_n 0, 1) := by decide +kernel
theorem dX7_paints_88 : decode cX7_paints 88 = .ok (.getfield 15, 3) := by decide +kernel
theorem dX7_paints_91 : decode cX7_paints 91 = .ok (.iload 4, 2) := by decide +kernel
theorem dX7_paints_93 : decode cX7_paints 93 = .ok (.dup2, 1) := by decide +kernel
theorem dX7_paints_94 : decode cX7_paints 94 = .ok (.iaload, 1) := by decide +kernel
theorem dX7_paints_95 : decode cX7_paints 95 = .ok (.iconst 1, 1) := by decide +kernel
theorem dX7_paints_96 : decode cX7_paints 96 = .ok (.iload_n 2, 1) := by decide +kernel
theorem dX7_paints_97 : decode cX7_paints 97 = .ok (.ishl, 1) := by decide +kernel
theorem dX7_paints_98 : decode cX7_paints 98 = .ok (.iconst (-1), 1) := by decide +kernel
theorem dX7_paints_99 : decode cX7_paints 99 = .ok (.ixor, 1) := by decide +kernel
theorem dX7_paints_100 : decode cX7_paints 100 = .ok (.iand, 1) := by decide +kernel
theorem dX7_paints_101 : decode cX7_paints 101 = .ok (.iastore, 1) := by decide +kernel
theorem dX7_paints_102 : decode cX7_paints 102 = .ok (.iinc 4 1, 3) := by decide +kernel
theorem dX7_paints_105 : decode cX7_paints 105 = .ok (.goto (-92), 3) := by decide +kernel
theorem dX7_paints_108 : decode cX7_paints 108 = .ok (.iconst 0, 1) := by decide +kernel
theorem dX7_paints_109 : decode cX7_paints 109 = .ok (.ireturn, 1) := by decide +kernel
theorem dX8_init_0 : decode cX8_init 0 = .ok (.aload_n 0, 1) := by decide +kernel
theorem dX8_init_1 : decode cX8_init 1 = .ok (.invokespecial 3, 3) := by decide +kernel
theorem dX8_init_4 : decode cX8_init 4 = .ok (.aload_n 0, 1) := by decide +kernel
theorem dX8_init_5 : decode cX8_init 5 = .ok (.sipush 252, 3) := by decide +kernel
theorem dX8_init_8 : decode cX8_init 8 = .ok (.newarray .int, 2) := by decide +kernel
theorem dX8_init_10 : decode cX8_init 10 = .ok (.putfield 9, 3) := by decide +kernel
theorem dX8_init_13 : decode cX8_init 13 = .ok (.aload_n 0, 1) := by decide +kernel
theorem dX8_init_14 : decode cX8_init 14 = .ok (.iconst 0, 1) := by decide +kernel
theorem dX8_init_15 : decode cX8_init 15 = .ok (.putfield 15, 3) := by decide +kernel
theorem dX8_init_18 : decode cX8_init 18 = .ok (.aload_n 0, 1) := by decide +kernel
theorem dX8_init_19 : decode cX8_init 19 = .ok (.iconst (-1), 1) := by decide +kernel
theorem dX8_init_20 : decode cX8_init 20 = .ok (.putfield 19, 3) := by decide +kernel
theorem dX8_init_23 : decode cX8_init 23 = .ok (.aload_n 0, 1) := by decide +kernel
theorem dX8_init_24 : decode cX8_init 24 = .ok (.iconst (-1), 1) := by decide +kernel
theorem dX8_init_25 : decode cX8_init 25 = .ok (.putfield 22, 3) := by decide +kernel
theorem dX8_init_28 : decode cX8_init 28 = .ok (.aload_n 0, 1) := by decide +kernel
theorem dX8_init_29 : decode cX8_init 29 = .ok (.iconst (-1), 1) := by decide +kernel
theorem dX8_init_30 : decode cX8_init 30 = .ok (.putfield 25, 3) := by decide +kernel
theorem dX8_init_33 : decode cX8_init 33 = .ok (.return_, 1) := by decide +kernel
set_option maxRecDepth 20000 in
theorem ggX8_bring_X4_all : GoodIn wsX8_bring wsX4_all := goodIn_r _ [8, 9, 46, 47, 48] (by decide +kernel) (by decide +kernel)
set_option maxRecDepth 20000 in
theorem gX8_bring_X4_all_n33 : GoodIn wsX8_bring (wsX4_all) := ggX8_bring_X4_all
set_option maxRecDepth 20000 in
theorem ggX8_bring_X8_isPart : GoodIn wsX8_bring wsX8_isPart := goodIn_r _ [14, 2, 3, 5, 6, 7, 8, 9, 15, 16, 17, 18, 19, 20, 21, 22, 23, 24, 25, 26, 27, 28, 29, 30, 31, 32, 33, 34, 35, 41, 42, 43, 44, 45, 46, 47, 48] (by decide +kernel) (by decide +kernel)
set_option maxRecDepth 20000 in
theorem gX8_bring_X8_isPart : GoodIn wsX8_bring (wsV RX8 40 RX8 yX8_isPart wsX8_isPart) := goodIn_app (goodIn_of _ (by decide +kernel)) ggX8_bring_X8_isPart
set_option maxRecDepth 20000 in
theorem ggX8_bring_X8_keep : GoodIn wsX8_bring wsX8_keep := goodIn_r _ [39, 4, 40, 41, 42, 43, 44, 45] (by decide +kernel) (by decide +kernel)
set_option maxRecDepth 20000 in
theorem gX8_bring_X8_keep : GoodIn wsX8_bring (wsV RX8 44 RX8 yX8_keep wsX8_keep) := goodIn_app (goodIn_of _ (by decide +kernel)) ggX8_bring_X8_keep
theorem dX8_bring_0 : decode cX8_bring 0 = .ok (.aload_n 0, 1) := by decide +kernel
theorem dX8_bring_1 : decode cX8_bring 1 = .ok (.getfield 19, 3) := by decide +kernel
theorem dX8_bring_4 : decode cX8_bring 4 = .ok (.aload_n 1, 1) := by decide +kernel
theorem dX8_bring_5 : decode cX8_bring 5 = .ok (.getfield 28, 3) := by decide +kernel
theorem dX8_bring_8 : decode cX8_bring 8 = .ok (.if_icmp .ne 20, 3) := by decide +kernel
theorem dX8_bring_11 : decode cX8_bring 11 = .ok (.aload_n 0, 1) := by decide +kernel
theorem dX8_bring_12 : decode cX8_bring 12 = .ok (.getfield 22, 3) := by decide +kernel
theorem dX8_bring_15 : decode cX8_bring 15 = .ok (.iload_n 2, 1) := by decide +kernel
theorem dX8_bring_16 : decode cX8_bring 16 = .ok (.if_icmp .ne 12, 3) := by decide +kernel
theorem dX8_bring_19 : decode cX8_bring 19 = .ok (.aload_n 0, 1) := by decide +kernel
