theorem pz_X3_leastTight_X30 : ∀ x ∈ wsX30, x ∈ wsX3_leastTight := fun _ h => (List.mem_cons_of_mem _ (List.mem_append_right _ h))
theorem pz_X3_price_X3_price_r1 : ∀ x ∈ wsX3_price_r1, x ∈ wsX3_price := fun _ h => (List.mem_cons_of_mem _ (List.mem_append_left _ (List.mem_append_left _ h)))
theorem pz_X3_price_X30 : ∀ x ∈ wsX30, x ∈ wsX3_price := fun _ h => (List.mem_cons_of_mem _ (List.mem_append_right _ h))
theorem pz_X3_price_X3_price_r2 : ∀ x ∈ wsX3_price_r2, x ∈ wsX3_price := fun _ h => (List.mem_cons_of_mem _ (List.mem_append_left _ (List.mem_append_right _ h)))
theorem pz_X3_cheapest_X3_cheapest_r1 : ∀ x ∈ wsX3_cheapest_r1, x ∈ wsX3_cheapest := fun _ h => (List.mem_cons_of_mem _ (List.mem_append_left _ (List.mem_append_left _ h)))
theorem pz_X3_cheapest_X3_cheapest_r2 : ∀ x ∈ wsX3_cheapest_r2, x ∈ wsX3_cheapest := fun _ h => (List.mem_cons_of_mem _ (List.mem_append_left _ (List.mem_append_right _ h)))
theorem pz_X3_cheapest_X30 : ∀ x ∈ wsX30, x ∈ wsX3_cheapest := fun _ h => (List.mem_cons_of_mem _ (List.mem_append_right _ h))
theorem pz_X3_goesWithoutFill_X3_goesWithoutFill_r1 : ∀ x ∈ wsX3_goesWithoutFill_r1, x ∈ wsX3_goesWithoutFill := fun _ h => (List.mem_cons_of_mem _ (List.mem_append_left _ (List.mem_append_left _ (List.mem_append_left _ h))))
theorem pz_X3_goesWithoutFill_X40 : ∀ x ∈ wsX40, x ∈ wsX3_goesWithoutFill := fun _ h => (List.mem_cons_of_mem _ (List.mem_append_right _ h))
theorem pz_X3_goesWithoutFill_X30 : ∀ x ∈ wsX30, x ∈ wsX3_goesWithoutFill := fun _ h => (List.mem_cons_of_mem _ (List.mem_append_left _ (List.mem_append_right _ h)))
theorem pz_X3_goesWithoutFill_X3_goesWithoutFill_r2 : ∀ x ∈ wsX3_goesWithoutFill_r2, x ∈ wsX3_goesWithoutFill := fun _ h => (List.mem_cons_of_mem _ (List.mem_append_left _ (List.mem_append_left _ (List.mem_append_right _ h))))
theorem pz_X4_invert_X40 : ∀ x ∈ wsX40, x ∈ wsX4_invert := fun _ h => (List.mem_cons_of_mem _ (List.mem_append_right _ h))
theorem pz_X5_begin_X5_begin_r1 : ∀ x ∈ wsX5_begin_r1, x ∈ wsX5_begin := fun _ h => (List.mem_cons_of_mem _ (List.mem_append_left _ (List.mem_append_left _ (List.mem_append_left _ (List.mem_append_left _ h)))))
theorem pz_X5_begin_X40 : ∀ x ∈ wsX40, x ∈ wsX5_begin := fun _ h => (List.mem_cons_of_mem _ (List.mem_append_left _ (List.mem_append_right _ h)))
theorem pz_X5_begin_X30 : ∀ x ∈ wsX30, x ∈ wsX5_begin := fun _ h => (List.mem_cons_of_mem _ (List.mem_append_right _ h))
theorem pz_X5_begin_X5_begin_r2 : ∀ x ∈ wsX5_begin_r2, x ∈ wsX5_begin := fun _ h => (List.mem_cons_of_mem _ (List.mem_append_left _ (List.mem_append_left _ (List.mem_append_left _ (List.mem_append_right _ (List.mem_append_left _ h))))))
theorem pz_X5_begin_X5_begin_r3 : ∀ x ∈ wsX5_begin_r3, x ∈ wsX5_begin := fun _ h => (List.mem_cons_of_mem _ (List.mem_append_left _ (List.mem_append_left _ (List.mem_append_left _ (List.mem_append_right _ (List.mem_append_right _ (List.mem_append_left _ h)))))))
theorem pz_X5_begin_X5_begin_r4 : ∀ x ∈ wsX5_begin_r4, x ∈ wsX5_begin := fun _ h => (List.mem_cons_of_mem _ (List.mem_append_left _ (List.mem_append_left _ (List.mem_append_left _ (List.mem_append_right _ (List.mem_append_right _ (List.mem_append_right _ h)))))))
theorem pz_X5_begin_X50 : ∀ x ∈ wsX50, x ∈ wsX5_begin := fun _ h => (List.mem_cons_of_mem _ (List.mem_append_left _ (List.mem_append_left _ (List.mem_append_right _ h))))
theorem pz_X5_letFirstGo_X5_letFirstGo_r1 : ∀ x ∈ wsX5_letFirstGo_r1, x ∈ wsX5_letFirstGo := fun _ h => (List.mem_cons_of_mem _ (List.mem_append_left _ (List.mem_append_left _ (List.mem_append_left _ h))))
theorem pz_X5_letFirstGo_X5_letFirstGo_r2 : ∀ x ∈ wsX5_letFirstGo_r2, x ∈ wsX5_letFirstGo := fun _ h => (List.mem_cons_of_mem _ (List.mem_append_left _ (List.mem_append_left _ (List.mem_append_right _ (List.mem_append_left _ h)))))
theorem pz_X5_letFirstGo_X30 : ∀ x ∈ wsX30, x ∈ wsX5_letFirstGo := fun _ h => (List.mem_cons_of_mem _ (List.mem_append_right _ h))
theorem pz_X5_letFirstGo_X5_letFirstGo_r3 : ∀ x ∈ wsX5_letFirstGo_r3, x ∈ wsX5_letFirstGo := fun _ h => (List.mem_cons_of_mem _ (List.mem_append_left _ (List.mem_append_left _ (List.mem_append_right _ (List.mem_append_right _ (List.mem_append_left _ h))))))
theorem pz_X5_letFirstGo_X5_letFirstGo_r4 : ∀ x ∈ wsX5_letFirstGo_r4, x ∈ wsX5_letFirstGo := fun _ h => (List.mem_cons_of_mem _ (List.mem_append_left _ (List.mem_append_left _ (List.mem_append_right _ (List.mem_append_right _ (List.mem_append_right _ h))))))
theorem pz_X5_letFirstGo_X50 : ∀ x ∈ wsX50, x ∈ wsX5_letFirstGo := fun _ h => (List.mem_cons_of_mem _ (List.mem_append_left _ (List.mem_append_right _ h)))
theorem pz_X5_leastFrom_X5_leastFrom_r2 : ∀ x ∈ wsX5_leastFrom_r2, x ∈ wsX5_leastFrom := fun _ h => (List.mem_cons_of_mem _ (List.mem_append_left _ (List.mem_append_left _ (List.mem_append_right _ (List.mem_append_left _ h)))))
theorem pz_X5_leastFrom_X5_leastFrom_r1 : ∀ x ∈ wsX5_leastFrom_r1, x ∈ wsX5_leastFrom := fun _ h => (List.mem_cons_of_mem _ (List.mem_append_left _ (List.mem_append_left _ (List.mem_append_left _ h))))
theorem pz_X5_leastFrom_X5_leastFrom_r3 : ∀ x ∈ wsX5_leastFrom_r3, x ∈ wsX5_leastFrom := fun _ h => (List.mem_cons_of_mem _ (List.mem_append_left _ (List.mem_append_left _ (List.mem_append_right _ (List.mem_append_right _ (List.mem_append_left _ h))))))
theorem pz_X5_leastFrom_X50 : ∀ x ∈ wsX50, x ∈ wsX5_leastFrom := fun _ h => (List.mem_cons_of_mem _ (List.mem_append_left _ (List.mem_append_right _ h)))
theorem pz_X5_leastFrom_X30 : ∀ x ∈ wsX30, x ∈ wsX5_leastFrom := fun _ h => (List.mem_cons_of_mem _ (List.mem_append_right _ h))
theorem pz_X5_leastFrom_X5_leastFrom_r4 : ∀ x ∈ wsX5_leastFrom_r4, x ∈ wsX5_leastFrom := fun _ h => (List.mem_cons_of_mem _ (List.mem_append_left _ (List.mem_append_left _ (List.mem_append_right _ (List.mem_append_right _ (List.mem_append_right _ h))))))
theorem pz_X5_priceAll_X5_priceAll_r1 : ∀ x ∈ wsX5_priceAll_r1, x ∈ wsX5_priceAll := fun _ h => (List.mem_cons_of_mem _ (List.mem_append_left _ (List.mem_append_left _ (List.mem_append_left _ h))))
theorem pz_X5_priceAll_X5_priceAll_r2 : ∀ x ∈ wsX5_priceAll_r2, x ∈ wsX5_priceAll := fun _ h => (List.mem_cons_of_mem _ (List.mem_append_left _ (List.mem_append_left _ (List.mem_append_right _ h))))
theorem pz_X5_priceAll_X30 : ∀ x ∈ wsX30, x ∈ wsX5_priceAll := fun _ h => (List.mem_cons_of_mem _ (List.mem_append_right _ h))
theorem pz_X5_neverWrong_X5_neverWrong_r1 : ∀ x ∈ wsX5_neverWrong_r1, x ∈ wsX5_neverWrong := fun _ h => (List.mem_cons_of_mem _ (List.mem_append_left _ (List.mem_append_left _ (List.mem_append_left _ h))))
theorem pz_X5_neverWrong_X30 : ∀ x ∈ wsX30, x ∈ wsX5_neverWrong := fun _ h => (List.mem_cons_of_mem _ (List.mem_append_right _ h))
theorem pz_X5_neverWrong_X5_neverWrong_r2 : ∀ x ∈ wsX5_neverWrong_r2, x ∈ wsX5_neverWrong := fun _ h => (List.mem_cons_of_mem _ (List.mem_append_left _ (List.mem_append_left _ (List.mem_append_right _ h))))
theorem dX3_lack_46 : decode cX3_lack 46 = .ok (.iaload, 1) := by decide +kernel
theorem dX3_lack_47 : decode cX3_lack 47 = .ok (.iconst (-1), 1) := by decide +kernel
theorem dX3_lack_48 : decode cX3_lack 48 = .ok (.ixor, 1) := by decide +kernel
theorem dX3_lack_49 : decode cX3_lack 49 = .ok (.iand, 1) := by decide +kernel
theorem dX3_lack_50 : decode cX3_lack 50 = .ok (.invokestatic 41, 3) := by decide +kernel
theorem dX3_lack_53 : decode cX3_lack 53 = .ok (.iconst 1, 1) := by decide +kernel
theorem dX3_lack_54 : decode cX3_lack 54 = .ok (.isub, 1) := by decide +kernel
theorem dX3_lack_55 : decode cX3_lack 55 = .ok (.iadd, 1) := by decide +kernel
theorem dX3_lack_56 : decode cX3_lack 56 = .ok (.istore 5, 2) := by decide +kernel
theorem dX3_lack_58 : decode cX3_lack 58 = .ok (.iload 6, 2) := by decide +kernel
theorem dX3_lack_60 : decode cX3_lack 60 = .ok (.invokestatic 38, 3) := by decide +kernel
theorem dX3_lack_63 : decode cX3_lack 63 = .ok (.istore 6, 2) := by decide +kernel
theorem dX3_lack_65 : decode cX3_lack 65 = .ok (.iinc 7 1, 3) := by decide +kernel
theorem dX3_lack_68 : decode cX3_lack 68 = .ok (.goto (-46), 3) := by decide +kernel
theorem dX3_lack_71 : decode cX3_lack 71 = .ok (.iload 5, 2) := by decide +kernel
theorem dX3_lack_73 : decode cX3_lack 73 = .ok (.iconst 2, 1) := by decide +kernel
theorem dX3_lack_74 : decode cX3_lack 74 = .ok (.idiv, 1) := by decide +kernel
theorem dX3_lack_75 : decode cX3_lack 75 = .ok (.ireturn, 1) := by decide +kernel
set_option maxRecDepth 20000 in
theorem ggX3_isTight_J6_numberOfTrailingZeros_0f7a4 : GoodIn wsX3_isTight wsJ6_numberOfTrailingZeros_0f7a4 := goodIn_sub (gi_c 6 rfl (gi_c 7 rfl gi_n)) (by decide +kernel)
set_option maxRecDepth 20000 in
theorem gX3_isTight_J6_numberOfTrailingZeros_0f7a4 : GoodIn wsX3_isTight (va_wsS RX3 32 yJ6_numberOfTrailingZeros_0f7a4 wsJ6_numberOfTrailingZeros_0f7a4) := goodIn_app (goodIn_of _ (by decide +kernel)) ggX3_isTight_J6_numberOfTrailingZeros_0f7a4
set_option maxRecDepth 20000 in
theorem ggX3_isTight_X11_withoutLeast : GoodIn wsX3_isTight wsX11_withoutLeast := goodIn_sub (gi_c 10 rfl gi_n) (by decide +kernel)
set_option maxRecDepth 20000 in
theorem gX3_isTight_X11_withoutLeast_n38 : GoodIn wsX3_isTight (wsX11_withoutLeast) := ggX3_isTight_X11_withoutLeast
theorem dX3_isTight_0 : decode cX3_isTight 0 = .ok (.aload_n 0, 1) := by decide +kernel
theorem dX3_isTight_1 : decode cX3_isTight 1 = .ok (.getfield 11, 3) := by decide +kernel
theorem dX3_isTight_4 : decode cX3_isTight 4 = .ok (.iload_n 1, 1) := by decide +kernel
theorem dX3_isTight_5 : decode cX3_isTight 5 = .ok (.aaload, 1) := by decide +kernel
theorem dX3_isTight_6 : decode cX3_isTight 6 = .ok (.astore_n 3, 1) := by decide +kernel
theorem dX3_isTight_7 : decode cX3_isTight 7 = .ok (.aload_n 3, 1) := by decide +kernel
theorem dX3_isTight_8 : decode cX3_isTight 8 = .ok (.iload_n 2, 1) := by decide +kernel
theorem dX3_isTight_9 : decode cX3_isTight 9 = .ok (.iaload, 1) := by decide +kernel
theorem dX3_isTight_10 : decode cX3_isTight 10 = .ok (.istore 4, 2) := by decide +kernel
theorem dX3_isTight_12 : decode cX3_isTight 12 = .ok (.iload 4, 2) := by decide +kernel
theorem dX3_isTight_14 : decode cX3_isTight 14 = .ok (.istore 5, 2) := by decide +kernel
theorem dX3_isTight_16 : decode cX3_isTight 16 = .ok (.iconst 0, 1) := by decide +kernel
theorem dX3_isTight_17 : decode cX3_isTight 17 = .ok (.istore 6, 2) := by decide +kernel
theorem dX3_isTight_19 : decode cX3_isTight 19 = .ok (.iload 6, 2) := by decide +kernel
theorem dX3_isTight_21 : decode cX3_isTight 21 = .ok (.aload_n 0, 1) := by decide +kernel
theorem dX3_isTight_22 : decode cX3_isTight 22 = .ok (.getfield 16, 3) := by decide +kernel
theorem dX3_isTight_25 : decode cX3_isTight 25 = .ok (.if_icmp .ge 46, 3) := by decide +kernel
theorem dX3_isTight_28 : decode cX3_isTight 28 = .ok (.iload 5, 2) := by decide +kernel
theorem dX3_isTight_30 : decode cX3_isTight 30 = .ok (.ifCond .eq 41, 3) := by decide +kernel
theorem dX3_isTight_33 : decode cX3_isTight 33 = .ok (.iload 5, 2) := by decide +kernel
theorem dX3_isTight_35 : decode cX3_isTight 35 = .ok (.invokestatic 32, 3) := by decide +kernel
theorem dX3_isTight_38 : decode cX3_isTight 38 = .ok (.istore 7, 2) := by decide +kernel
theorem dX3_isTight_40 : decode cX3_isTight 40 = .ok (.iload 4, 2) := by decide +kernel
theorem dX3_isTight_42 : decode cX3_isTight 42 = .ok (.aload_n 3, 1) := by decide +kernel
theorem dX3_isTight_43 : decode cX3_isTight 43 = .ok (.iload 7, 2) := by decide +kernel
theorem dX3_isTight_45 : decode cX3_isTight 45 = .ok (.iaload, 1) := by decide +kernel
theorem dX3_isTight_46 : decode cX3_isTight 46 = .ok (.iconst (-1), 1) := by decide +kernel
theorem dX3_isTight_47 : decode cX3_isTight 47 = .ok (.ixor, 1) := by decide +kernel
theorem dX3_isTight_48 : decode cX3_isTight 48 = .ok (.iand, 1) := by decide +kernel
theorem dX3_isTight_49 : decode cX3_isTight 49 = .ok (.iconst 1, 1) := by decide +kernel
theorem dX3_isTight_50 : decode cX3_isTight 50 = .ok (.iload 7, 2) := by decide +kernel
theorem dX3_isTight_52 : decode cX3_isTight 52 = .ok (.ishl, 1) := by decide +kernel
theorem dX3_isTight_53 : decode cX3_isTight 53 = .ok (.if_icmp .eq 5, 3) := by decide +kernel
theorem dX3_isTight_56 : decode cX3_isTight 56 = .ok (.iconst 0, 1) := by decide +kernel
theorem dX3_isTight_57 : decode cX3_isTight 57 = .ok (.ireturn, 1) := by decide +kernel
theorem dX3_isTight_58 : decode cX3_isTight 58 = .ok (.iload 5, 2) := by decide +kernel
theorem dX3_isTight_60 : decode cX3_isTight 60 = .ok (.invokestatic 38, 3) := by decide +kernel
theorem dX3_isTight_63 : decode cX3_isTight 63 = .ok (.istore 5, 2) := by decide +kernel
theorem dX3_isTight_65 : decode cX3_isTight 65 = .ok (.iinc 6 1, 3) := by decide +kernel
theorem dX3_isTight_68 : decode cX3_isTight 68 = .ok (.goto (-49), 3) := by decide +kernel
theorem dX3_isTight_71 : decode cX3_isTight 71 = .ok (.iconst 1, 1) := by decide +kernel
theorem dX3_isTight_72 : decode cX3_isTight 72 = .ok (.ireturn, 1) := by decide +kernel
set_option maxRecDepth 20000 in
theorem ggX3_leastTight_X11_in : GoodIn wsX3_leastTight wsX11_in := goodIn_sub (gi_c 4 rfl gi_n) (by decide +kernel)
set_option maxRecDepth 20000 in
theorem gX3_leastTight_X11_in_n44 : GoodIn wsX3_leastTight (wsX11_in) := ggX3_leastTight_X11_in
set_option maxRecDepth 20000 in
theorem ggX3_leastTight_X3_isTight : GoodIn wsX3_leastTight wsX3_isTight := goodIn_sub (gi_c 9 rfl (gi_a (gi_c 10 rfl (gi_c 1 rfl (gi_c 11 rfl (gi_c 12 rfl (gi_c 13 rfl (gi_c 14 rfl (gi_c 15 rfl (gi_c 16 rfl (gi_c 3 rfl (gi_c 17 rfl gi_n)))))))))) pz_X3_leastTight_X30)) (by decide +kernel)
set_option maxRecDepth 20000 in
theorem gX3_leastTight_X3_isTight : GoodIn wsX3_leastTight (wsV RX3 48 RX3 yX3_isTight wsX3_isTight) := goodIn_app (goodIn_of _ (by decide +kernel)) ggX3_leastTight_X3_isTight
theorem dX3_leastTight_0 : decode cX3_leastTight 0 = .ok (.iconst 0, 1) := by decide +kernel
theorem dX3_leastTight_1 : decode cX3_leastTight 1 = .ok (.istore_n 3, 1) := by decide +kernel
theorem dX3_leastTight_2 : decode cX3_leastTight 2 = .ok (.iload_n 3, 1) := by decide +kernel
theorem dX3_leastTight_3 : decode cX3_leastTight 3 = .ok (.aload_n 0, 1) := by decide +kernel
theorem dX3_leastTight_4 : decode cX3_leastTight 4 = .ok (.getfield 16, 3) := by decide +kernel
theorem dX3_leastTight_7 : decode cX3_leastTight 7 = .ok (.if_icmp .ge 28, 3) := by decide +kernel
theorem dX3_leastTight_10 : decode cX3_leastTight 10 = .ok (.iload_n 2, 1) := by decide +kernel
theorem dX3_leastTight_11 : decode cX3_leastTight 11 = .ok (.iload_n 3, 1) := by decide +kernel
theorem dX3_leastTight_12 : decode cX3_leastTight 12 = .ok (.invokestatic 44, 3) := by decide +kernel
theorem dX3_leastTight_15 : decode cX3_leastTight 15 = .ok (.ifCond .eq 14, 3) := by decide +kernel
theorem dX3_leastTight_18 : decode cX3_leastTight 18 = .ok (.aload_n 0, 1) := by decide +kernel
theorem dX3_leastTight_19 : decode cX3_leastTight 19 = .ok (.iload_n 1, 1) := by decide +kernel
theorem dX3_leastTight_20 : decode cX3_leastTight 20 = .ok (.iload_n 3, 1) := by decide +kernel
theorem dX3_leastTight_21 : decode cX3_leastTight 21 = .ok (.invokevirtual 48, 3) := by decide +kernel
theorem dX3_leastTight_24 : decode cX3_leastTight 24 = .ok (.ifCond .eq 5, 3) := by decide +kernel
theorem dX3_leastTight_27 : decode cX3_leastTight 27 = .ok (.iload_n 3, 1) := by decide +kernel
theorem dX3_leastTight_28 : decode cX3_leastTight 28 = .ok (.ireturn, 1) := by decide +kernel
theorem dX3_leastTight_29 : decode cX3_leastTight 29 = .ok (.iinc 3 1, 3) := by decide +kernel
theorem dX3_leastTight_32 : decode cX3_leastTight 32 = .ok (.goto (-30), 3) := by decide +kernel
theorem dX3_leastTight_35 : decode cX3_leastTight 35 = .ok (.iconst (-1), 1) := by decide +kernel
theorem dX3_leastTight_36 : decode cX3_leastTight 36 = .ok (.ireturn, 1) := by decide +kernel
set_option maxRecDepth 20000 in
theorem ggX3_hasWayOutside_X11_in : GoodIn wsX3_hasWayOutside wsX11_in := goodIn_sub (gi_c 5 rfl gi_n) (by decide +kernel)
set_option maxRecDepth 20000 in
theorem gX3_hasWayOutside_X11_in_n44 : GoodIn wsX3_hasWayOutside (wsX11_in) := ggX3_hasWayOutside_X11_in
set_option maxRecDepth 20000 in
theorem ggX3_hasWayOutside_J6_numberOfTrailingZeros_0f7a4 : GoodIn wsX3_hasWayOutside wsJ6_numberOfTrailingZeros_0f7a4 := goodIn_sub (gi_c 9 rfl (gi_c 10 rfl gi_n)) (by decide +kernel)
set_option maxRecDepth 20000 in
theorem gX3_hasWayOutside_J6_numberOfTrailingZeros_0f7a4 : GoodIn wsX3_hasWayOutside (va_wsS RX3 32 yJ6_numberOfTrailingZeros_0f7a4 wsJ6_numberOfTrailingZeros_0f7a4) := goodIn_app (goodIn_of _ (by decide +kernel)) ggX3_hasWayOutside_J6_numberOfTrailingZeros_0f7a4
set_option maxRecDepth 20000 in
theorem ggX3_hasWayOutside_X11_reached : GoodIn wsX3_hasWayOutside wsX11_reached := goodIn_sub (gi_c 12 rfl (gi_c 13 rfl (gi_c 7 rfl (gi_c 8 rfl (gi_c 9 rfl (gi_c 10 rfl (gi_c 14 rfl (gi_c 15 rfl (gi_c 4 rfl (gi_c 16 rfl gi_n)))))))))) (by decide +kernel)
set_option maxRecDepth 20000 in
theorem gX3_hasWayOutside_X11_reached_n51 : GoodIn wsX3_hasWayOutside (wsX11_reached) := ggX3_hasWayOutside_X11_reached
theorem dX3_hasWayOutside_0 : decode cX3_hasWayOutside 0 = .ok (.aload_n 0, 1) := by decide +kernel
theorem dX3_hasWayOutside_1 : decode cX3_hasWayOutside 1 = .ok (.getfield 11, 3) := by decide +kernel
theorem dX3_hasWayOutside_4 : decode cX3_hasWayOutside 4 = .ok (.iload_n 1, 1) := by decide +kernel
theorem dX3_hasWayOutside_5 : decode cX3_hasWayOutside 5 = .ok (.aaload, 1) := by decide +kernel
theorem dX3_hasWayOutside_6 : decode cX3_hasWayOutside 6 = .ok (.astore 4, 2) := by decide +kernel
theorem dX3_hasWayOutside_8 : decode cX3_hasWayOutside 8 = .ok (.aload 4, 2) := by decide +kernel
theorem dX3_hasWayOutside_10 : decode cX3_hasWayOutside 10 = .ok (.iload_n 2, 1) := by decide +kernel
theorem dX3_hasWayOutside_11 : decode cX3_hasWayOutside 11 = .ok (.iaload, 1) := by decide +kernel
theorem dX3_hasWayOutside_12 : decode cX3_hasWayOutside 12 = .ok (.istore 5, 2) := by decide +kernel
theorem dX3_hasWayOutside_14 : decode cX3_hasWayOutside 14 = .ok (.iconst 0, 1) := by decide +kernel
theorem dX3_hasWayOutside_15 : decode cX3_hasWayOutside 15 = .ok (.istore 6, 2) := by decide +kernel
theorem dX3_hasWayOutside_17 : decode cX3_hasWayOutside 17 = .ok (.iconst 0, 1) := by decide +kernel
theorem dX3_hasWayOutside_18 : decode cX3_hasWayOutside 18 = .ok (.istore 7, 2) := by decide +kernel
theorem dX3_hasWayOutside_20 : decode cX3_hasWayOutside 20 = .ok (.iload 7, 2) := by decide +kernel
theorem dX3_hasWayOutside_22 : decode cX3_hasWayOutside 22 = .ok (.aload_n 0, 1) := by decide +kernel
theorem dX3_hasWayOutside_23 : decode cX3_hasWayOutside 23 = .ok (.getfield 16, 3) := by decide +kernel
theorem dX3_hasWayOutside_26 : decode cX3_hasWayOutside 26 = .ok (.if_icmp .ge 45, 3) := by decide +kernel
theorem dX3_hasWayOutside_29 : decode cX3_hasWayOutside 29 = .ok (.iload 5, 2) := by decide +kernel
theorem dX3_hasWayOutside_31 : decode cX3_hasWayOutside 31 = .ok (.iload 7, 2) := by decide +kernel
theorem dX3_hasWayOutside_33 : decode cX3_hasWayOutside 33 = .ok (.invokestatic 44, 3) := by decide +kernel
theorem dX3_hasWayOutside_36 : decode cX3_hasWayOutside 36 = .ok (.ifCond .eq 29, 3) := by decide +kernel
theorem dX3_hasWayOutside_39 : decode cX3_hasWayOutside 39 = .ok (.iload 5, 2) := by decide +kernel
theorem dX3_hasWayOutside_41 : decode cX3_hasWayOutside 41 = .ok (.aload 4, 2) := by decide +kernel
theorem dX3_hasWayOutside_43 : decode cX3_hasWayOutside 43 = .ok (.iload 7, 2) := by decide +kernel
theorem dX3_hasWayOutside_45 : decode cX3_hasWayOutside 45 = .ok (.iaload, 1) := by decide +kernel
theorem dX3_hasWayOutside_46 : decode cX3_hasWayOutside 46 = .ok (.iconst (-1), 1) := by decide +kernel
theorem dX3_hasWayOutside_47 : decode cX3_hasWayOutside 47 = .ok (.ixor, 1) := by decide +kernel
theorem dX3_hasWayOutside_48 : decode cX3_hasWayOutside 48 = .ok (.iand, 1) := by decide +kernel
theorem dX3_hasWayOutside_49 : decode cX3_hasWayOutside 49 = .ok (.iconst 1, 1) := by decide +kernel
theorem dX3_hasWayOutside_50 : decode cX3_hasWayOutside 50 = .ok (.iload 7, 2) := by decide +kernel
theorem dX3_hasWayOutside_52 : decode cX3_hasWayOutside 52 = .ok (.ishl, 1) := by decide +kernel
theorem dX3_hasWayOutside_53 : decode cX3_hasWayOutside 53 = .ok (.if_icmp .eq 12, 3) := by decide +kernel
theorem dX3_hasWayOutside_56 : decode cX3_hasWayOutside 56 = .ok (.iload 6, 2) := by decide +kernel
theorem dX3_hasWayOutside_58 : decode cX3_hasWayOutside 58 = .ok (.iconst 1, 1) := by decide +kernel
theorem dX3_hasWayOutside_59 : decode cX3_hasWayOutside 59 = .ok (.iload 7, 2) := by decide +kernel
theorem dX3_hasWayOutside_61 : decode cX3_hasWayOutside 61 = .ok (.ishl, 1) := by decide +kernel
theorem dX3_hasWayOutside_62 : decode cX3_hasWayOutside 62 = .ok (.ior, 1) := by decide +kernel
theorem dX3_hasWayOutside_63 : decode cX3_hasWayOutside 63 = .ok (.istore 6, 2) := by decide +kernel
theorem dX3_hasWayOutside_65 : decode cX3_hasWayOutside 65 = .ok (.iinc 7 1, 3) := by decide +kernel
theorem dX3_hasWayOutside_68 : decode cX3_hasWayOutside 68 = .ok (.goto (-48), 3) := by decide +kernel
theorem dX3_hasWayOutside_71 : decode cX3_hasWayOutside 71 = .ok (.iload_n 3, 1) := by decide +kernel
theorem dX3_hasWayOutside_72 : decode cX3_hasWayOutside 72 = .ok (.iload 5, 2) := by decide +kernel
theorem dX3_hasWayOutside_74 : decode cX3_hasWayOutside 74 = .ok (.iconst (-1), 1) := by decide +kernel
theorem dX3_hasWayOutside_75 : decode cX3_hasWayOutside 75 = .ok (.ixor, 1) := by decide +kernel
theorem dX3_hasWayOutside_76 : decode cX3_hasWayOutside 76 = .ok (.iand, 1) := by decide +kernel
theorem dX3_hasWayOutside_77 : decode cX3_hasWayOutside 77 = .ok (.iconst 1, 1) := by decide +kernel
theorem dX3_hasWayOutside_78 : decode cX3_hasWayOutside 78 = .ok (.iload_n 2, 1) := by decide +kernel
theorem dX3_hasWayOutside_79 : decode cX3_hasWayOutside 79 = .ok (.ishl, 1) := by decide +kernel
theorem dX3_hasWayOutside_80 : decode cX3_hasWayOutside 80 = .ok (.iconst (-1), 1) := by decide +kernel
theorem dX3_hasWayOutside_81 : decode cX3_hasWayOutside 81 = .ok (.ixor, 1) := by decide +kernel
theorem dX3_hasWayOutside_82 : decode cX3_hasWayOutside 82 = .ok (.iand, 1) := by decide +kernel
theorem dX3_hasWayOutside_83 : decode cX3_hasWayOutside 83 = .ok (.istore 7, 2) := by decide +kernel
theorem dX3_hasWayOutside_85 : decode cX3_hasWayOutside 85 = .ok (.aload 4, 2) := by decide +kernel
theorem dX3_hasWayOutside_87 : decode cX3_hasWayOutside 87 = .ok (.iload 6, 2) := by decide +kernel
theorem dX3_hasWayOutside_89 : decode cX3_hasWayOutside 89 = .ok (.invokestatic 32, 3) := by decide +kernel
theorem dX3_hasWayOutside_92 : decode cX3_hasWayOutside 92 = .ok (.iload 7, 2) := by decide +kernel
theorem dX3_hasWayOutside_94 : decode cX3_hasWayOutside 94 = .ok (.iload 6, 2) := by decide +kernel
theorem dX3_hasWayOutside_96 : decode cX3_hasWayOutside 96 = .ok (.ior, 1) := by decide +kernel
theorem dX3_hasWayOutside_97 : decode cX3_hasWayOutside 97 = .ok (.invokestatic 51, 3) := by decide +kernel
theorem dX3_hasWayOutside_100 : decode cX3_hasWayOutside 100 = .ok (.iload 6, 2) := by decide +kernel
theorem dX3_hasWayOutside_102 : decode cX3_hasWayOutside 102 = .ok (.iand, 1) := by decide +kernel
theorem dX3_hasWayOutside_103 : decode cX3_hasWayOutside 103 = .ok (.iload 6, 2) := by decide +kernel
theorem dX3_hasWayOutside_105 : decode cX3_hasWayOutside 105 = .ok (.if_icmp .ne 7, 3) := by decide +kernel
theorem dX3_hasWayOutside_108 : decode cX3_hasWayOutside 108 = .ok (.iconst 1, 1) := by decide +kernel
theorem dX3_hasWayOutside_109 : decode cX3_hasWayOutside 109 = .ok (.goto 4, 3) := by decide +kernel
theorem dX3_hasWayOutside_112 : decode cX3_hasWayOutside 112 = .ok (.iconst 0, 1) := by decide +kernel
theorem dX3_hasWayOutside_113 : decode cX3_hasWayOutside 113 = .ok (.ireturn, 1) := by decide +kernel
set_option maxRecDepth 20000 in
theorem ggX3_price_X3_isTight : GoodIn wsX3_price wsX3_isTight := goodIn_sub (gi_t pz_X3_price_X3_price_r1 4 rfl (gi_a (gi_t pz_X3_price_X3_price_r1 5 rfl (gi_t pz_X3_price_X3_price_r1 6 rfl (gi_t pz_X3_price_X3_price_r1 7 rfl (gi_t pz_X3_price_X3_price_r1 8 rfl (gi_t pz_X3_price_X3_price_r1 9 rfl (gi_t pz_X3_price_X3_price_r1 10 rfl (gi_t pz_X3_price_X3_price_r1 11 rfl (gi_t pz_X3_price_X3_price_r1 12 rfl (gi_t pz_X3_price_X3_price_r1 13 rfl (gi_t pz_X3_price_X3_price_r1 14 rfl gi_n)))))))))) pz_X3_price_X30)) (by decide +kernel)
set_option maxRecDepth 20000 in
theorem gX3_price_X3_isTight : GoodIn wsX3_price (wsV RX3 48 RX3 yX3_isTight wsX3_isTight) := goodIn_app (goodIn_of _ (by decide +kernel)) ggX3_price_X3_isTight
set_option maxRecDepth 20000 in
theorem ggX3_price_X3_width : GoodIn wsX3_price wsX3_width := goodIn_sub (gi_t pz_X3_price_X3_price_r1 18 rfl (gi_a (gi_t pz_X3_price_X3_price_r1 5 rfl (gi_t pz_X3_price_X3_price_r1 19 rfl (gi_t pz_X3_price_X3_price_r1 20 rfl (gi_t pz_X3_price_X3_price_r1 9 rfl (gi_t pz_X3_price_X3_price_r1 21 rfl (gi_t pz_X3_price_X3_price_r1 22 rfl (gi_t pz_X3_price_X3_price_r1 23 rfl (gi_t pz_X3_price_X3_price_r2 0 rfl gi_n)))))))) pz_X3_price_X30)) (by decide +kernel)
set_option maxRecDepth 20000 in
theorem gX3_price_X3_width : GoodIn wsX3_price (wsV RX3 55 RX3 yX3_width wsX3_width) := goodIn_app (goodIn_of _ (by decide +kernel)) ggX3_price_X3_width
set_option maxRecDepth 20000 in
theorem ggX3_price_X3_lack : GoodIn wsX3_price wsX3_lack := goodIn_sub (gi_t pz_X3_price_X3_price_r2 4 rfl (gi_a (gi_t pz_X3_price_X3_price_r1 5 rfl (gi_t pz_X3_price_X3_price_r1 6 rfl (gi_t pz_X3_price_X3_price_r1 7 rfl (gi_t pz_X3_price_X3_price_r1 8 rfl (gi_t pz_X3_price_X3_price_r1 9 rfl (gi_t pz_X3_price_X3_price_r1 10 rfl (gi_t pz_X3_price_X3_price_r1 11 rfl (gi_t pz_X3_price_X3_price_r1 19 rfl (gi_t pz_X3_price_X3_price_r1 20 rfl (gi_t pz_X3_price_X3_price_r1 21 rfl (gi_t pz_X3_price_X3_price_r1 22 rfl (gi_t pz_X3_price_X3_price_r1 23 rfl (gi_t pz_X3_price_X3_price_r2 0 rfl (gi_t pz_X3_price_X3_price_r1 12 rfl (gi_t pz_X3_price_X3_price_r1 13 rfl (gi_t pz_X3_price_X3_price_r1 14 rfl gi_n)))))))))))))))) pz_X3_price_X30)) (by decide +kernel)
set_option maxRecDepth 20000 in
theorem gX3_price_X3_lack : GoodIn wsX3_price (wsV RX3 59 RX3 yX3_lack wsX3_lack) := goodIn_app (goodIn_of _ (by decide +kernel)) ggX3_price_X3_lack
theorem dX3_price_0 : decode cX3_price 0 = .ok (.iload_n 1, 1) := by decide +kernel
theorem dX3_price_1 : decode cX3_price 1 = .ok (.lookupswitch 49 #[(0, 27), (1, 42)], 27) := by decide +kernel
theorem dX3_price_28 : decode cX3_price 28 = .ok (.aload_n 0, 1) := by decide +kernel
theorem dX3_price_29 : decode cX3_price 29 = .ok (.iload_n 2, 1) := by decide +kernel
theorem dX3_price_30 : decode cX3_price 30 = .ok (.iload_n 3, 1) := by decide +kernel
theorem dX3_price_31 : decode cX3_price 31 = .ok (.invokevirtual 48, 3) := by decide +kernel
theorem dX3_price_34 : decode cX3_price 34 = .ok (.ifCond .eq 7, 3) := by decide +kernel
theorem dX3_price_37 : decode cX3_price 37 = .ok (.iconst 0, 1) := by decide +kernel
theorem dX3_price_38 : decode cX3_price 38 = .ok (.goto 4, 3) := by decide +kernel
theorem dX3_price_41 : decode cX3_price 41 = .ok (.iconst 1, 1) := by decide +kernel
theorem dX3_price_42 : decode cX3_price 42 = .ok (.ireturn, 1) := by decide +kernel
theorem dX3_price_43 : decode cX3_price 43 = .ok (.aload_n 0, 1) := by decide +kernel
theorem dX3_price_44 : decode cX3_price 44 = .ok (.iload_n 2, 1) := by decide +kernel
theorem dX3_price_45 : decode cX3_price 45 = .ok (.iload_n 3, 1) := by decide +kernel
theorem dX3_price_46 : decode cX3_price 46 = .ok (.invokevirtual 55, 3) := by decide +kernel
theorem dX3_price_49 : decode cX3_price 49 = .ok (.ireturn, 1) := by decide +kernel
theorem dX3_price_50 : decode cX3_price 50 = .ok (.aload_n 0, 1) := by decide +kernel
theorem dX3_price_51 : decode cX3_price 51 = .ok (.iload_n 2, 1) := by decide +kernel
theorem dX3_price_52 : decode cX3_price 52 = .ok (.iload_n 3, 1) := by decide +kernel
theorem dX3_price_53 : decode cX3_price 53 = .ok (.invokevirtual 59, 3) := by decide +kernel
theorem dX3_price_56 : decode cX3_price 56 = .ok (.ireturn, 1) := by decide +kernel
set_option maxRecDepth 20000 in
theorem ggX3_cheapest_X11_in : GoodIn wsX3_cheapest wsX11_in := goodIn_sub (gi_t pz_X3_cheapest_X3_cheapest_r1 3 rfl gi_n) (by decide +kernel)
set_option maxRecDepth 20000 in
theorem gX3_cheapest_X11_in_n44 : GoodIn wsX3_cheapest (wsX11_in) := ggX3_cheapest_X11_in
set_option maxRecDepth 20000 in
theorem ggX3_cheapest_X3_price : GoodIn wsX3_cheapest wsX3_price := goodIn_sub (gi_t pz_X3_cheapest_X3_cheapest_r1 8 rfl (gi_a (gi_a (gi_t pz_X3_cheapest_X3_cheapest_r1 9 rfl (gi_t pz_X3_cheapest_X3_cheapest_r1 10 rfl (gi_t pz_X3_cheapest_X3_cheapest_r1 11 rfl (gi_t pz_X3_cheapest_X3_cheapest_r1 7 rfl (gi_t pz_X3_cheapest_X3_cheapest_r1 12 rfl (gi_t pz_X3_cheapest_X3_cheapest_r1 13 rfl (gi_t pz_X3_cheapest_X3_cheapest_r1 0 rfl (gi_t pz_X3_cheapest_X3_cheapest_r1 14 rfl (gi_t pz_X3_cheapest_X3_cheapest_r1 15 rfl (gi_t pz_X3_cheapest_X3_cheapest_r1 16 rfl (gi_t pz_X3_cheapest_X3_cheapest_r1 17 rfl (gi_t pz_X3_cheapest_X3_cheapest_r1 18 rfl (gi_t pz_X3_cheapest_X3_cheapest_r1 19 rfl (gi_t pz_X3_cheapest_X3_cheapest_r1 2 rfl (gi_t pz_X3_cheapest_X3_cheapest_r1 20 rfl (gi_t pz_X3_cheapest_X3_cheapest_r1 21 rfl (gi_t pz_X3_cheapest_X3_cheapest_r1 22 rfl (gi_t pz_X3_cheapest_X3_cheapest_r1 23 rfl (gi_t pz_X3_cheapest_X3_cheapest_r2 0 rfl (gi_t pz_X3_cheapest_X3_cheapest_r2 1 rfl (gi_t pz_X3_cheapest_X3_cheapest_r2 2 rfl (gi_t pz_X3_cheapest_X3_cheapest_r2 3 rfl (gi_t pz_X3_cheapest_X3_cheapest_r2 4 rfl (gi_t pz_X3_cheapest_X3_cheapest_r2 5 rfl gi_n)))))))))))))))))))))))) (gi_t pz_X3_cheapest_X3_cheapest_r2 6 rfl (gi_t pz_X3_cheapest_X3_cheapest_r2 7 rfl (gi_t pz_X3_cheapest_X3_cheapest_r2 8 rfl (gi_t pz_X3_cheapest_X3_cheapest_r2 9 rfl (gi_t pz_X3_cheapest_X3_cheapest_r2 10 rfl gi_n)))))) pz_X3_cheapest_X30)) (by decide +kernel)
set_option maxRecDepth 20000 in
theorem gX3_cheapest_X3_price : GoodIn wsX3_cheapest (wsV RX3 62 RX3 yX3_price wsX3_price) := goodIn_app (goodIn_of _ (by decide +kernel)) ggX3_cheapest_X3_price
theorem dX3_cheapest_0 : decode cX3_cheapest 0 = .ok (.iconst 0, 1) := by decide +kernel
theorem dX3_cheapest_1 : decode cX3_cheapest 1 = .ok (.istore 4, 2) := by decide +kernel
theorem dX3_cheapest_3 : decode cX3_cheapest 3 = .ok (.sipush 1000, 3) := by decide +kernel
theorem dX3_cheapest_6 : decode cX3_cheapest 6 = .ok (.istore 5, 2) := by decide +kernel
theorem dX3_cheapest_8 : decode cX3_cheapest 8 = .ok (.iconst 0, 1) := by decide +kernel
theorem dX3_cheapest_9 : decode cX3_cheapest 9 = .ok (.istore 6, 2) := by decide +kernel
theorem dX3_cheapest_11 : decode cX3_cheapest 11 = .ok (.iload 6, 2) := by decide +kernel
theorem dX3_cheapest_13 : decode cX3_cheapest 13 = .ok (.aload_n 0, 1) := by decide +kernel
theorem dX3_cheapest_14 : decode cX3_cheapest 14 = .ok (.getfield 16, 3) := by decide +kernel
theorem dX3_cheapest_17 : decode cX3_cheapest 17 = .ok (.if_icmp .ge 49, 3) := by decide +kernel
theorem dX3_cheapest_20 : decode cX3_cheapest 20 = .ok (.iload_n 3, 1) := by decide +kernel
theorem dX3_cheapest_21 : decode cX3_cheapest 21 = .ok (.iload 6, 2) := by decide +kernel
theorem dX3_cheapest_23 : decode cX3_cheapest 23 = .ok (.invokestatic 44, 3) := by decide +kernel
theorem dX3_cheapest_26 : decode cX3_cheapest 26 = .ok (.ifCond .eq 14, 3) := by decide +kernel
theorem dX3_cheapest_29 : decode cX3_cheapest 29 = .ok (.aload_n 0, 1) := by decide +kernel
theorem dX3_cheapest_30 : decode cX3_cheapest 30 = .ok (.iload_n 1, 1) := by decide +kernel
theorem dX3_cheapest_31 : decode cX3_cheapest 31 = .ok (.iload_n 2, 1) := by decide +kernel
theorem dX3_cheapest_32 : decode cX3_cheapest 32 = .ok (.iload 6, 2) := by decide +kernel
theorem dX3_cheapest_34 : decode cX3_cheapest 34 = .ok (.invokevirtual 62, 3) := by decide +kernel
theorem dX3_cheapest_37 : decode cX3_cheapest 37 = .ok (.goto 6, 3) := by decide +kernel
theorem dX3_cheapest_40 : decode cX3_cheapest 40 = .ok (.sipush 1000, 3) := by decide +kernel
theorem dX3_cheapest_43 : decode cX3_cheapest 43 = .ok (.istore 7, 2) := by decide +kernel
theorem dX3_cheapest_45 : decode cX3_cheapest 45 = .ok (.iload 7, 2) := by decide +kernel
theorem dX3_cheapest_47 : decode cX3_cheapest 47 = .ok (.iload 5, 2) := by decide +kernel
theorem dX3_cheapest_49 : decode cX3_cheapest 49 = .ok (.if_icmp .ge 11, 3) := by decide +kernel
theorem dX3_cheapest_52 : decode cX3_cheapest 52 = .ok (.iload 6, 2) := by decide +kernel
theorem dX3_cheapest_54 : decode cX3_cheapest 54 = .ok (.istore 4, 2) := by decide +kernel
theorem dX3_cheapest_56 : decode cX3_cheapest 56 = .ok (.iload 7, 2) := by decide +kernel
theorem dX3_cheapest_58 : decode cX3_cheapest 58 = .ok (.istore 5, 2) := by decide +kernel
theorem dX3_cheapest_60 : decode cX3_cheapest 60 = .ok (.iinc 6 1, 3) := by decide +kernel
theorem dX3_cheapest_63 : decode cX3_cheapest 63 = .ok (.goto (-52), 3) := by decide +kernel
theorem dX3_cheapest_66 : decode cX3_cheapest 66 = .ok (.iload 4, 2) := by decide +kernel
theorem dX3_cheapest_68 : decode cX3_cheapest 68 = .ok (.ireturn, 1) := by decide +kernel
set_option maxRecDepth 20000 in
theorem ggX3_goesWithoutFill_X3_start : GoodIn wsX3_goesWithoutFill wsX3_start := goodIn_sub (gi_t pz_X3_goesWithoutFill_X3_goesWithoutFill_r1 5 rfl (gi_a (gi_a (gi_t pz_X3_goesWithoutFill_X3_goesWithoutFill_r1 0 rfl (gi_t pz_X3_goesWithoutFill_X3_goesWithoutFill_r1 6 rfl (gi_t pz_X3_goesWithoutFill_X3_goesWithoutFill_r1 7 rfl (gi_t pz_X3_goesWithoutFill_X3_goesWithoutFill_r1 8 rfl (gi_t pz_X3_goesWithoutFill_X3_goesWithoutFill_r1 9 rfl (gi_t pz_X3_goesWithoutFill_X3_goesWithoutFill_r1 10 rfl gi_n)))))) pz_X3_goesWithoutFill_X40) pz_X3_goesWithoutFill_X30)) (by decide +kernel)
set_option maxRecDepth 20000 in
theorem gX3_goesWithoutFill_X3_start : GoodIn wsX3_goesWithoutFill (wsV RX3 66 RX3 yX3_start wsX3_start) := goodIn_app (goodIn_of _ (by decide +kernel)) ggX3_goesWithoutFill_X3_start
set_option maxRecDepth 20000 in
theorem ggX3_goesWithoutFill_X4_all : GoodIn wsX3_goesWithoutFill wsX4_all := goodIn_sub (gi_t pz_X3_goesWithoutFill_X3_goesWithoutFill_r1 14 rfl (gi_a (gi_t pz_X3_goesWithoutFill_X3_goesWithoutFill_r1 15 rfl gi_n) pz_X3_goesWithoutFill_X40)) (by decide +kernel)
set_option maxRecDepth 20000 in
theorem gX3_goesWithoutFill_X4_all_n70 : GoodIn wsX3_goesWithoutFill (wsX4_all) := ggX3_goesWithoutFill_X4_all
set_option maxRecDepth 20000 in
theorem ggX3_goesWithoutFill_X3_leastTight : GoodIn wsX3_goesWithoutFill wsX3_leastTight := goodIn_sub (gi_t pz_X3_goesWithoutFill_X3_goesWithoutFill_r1 19 rfl (gi_a (gi_t pz_X3_goesWithoutFill_X3_goesWithoutFill_r1 0 rfl (gi_t pz_X3_goesWithoutFill_X3_goesWithoutFill_r1 20 rfl (gi_t pz_X3_goesWithoutFill_X3_goesWithoutFill_r1 21 rfl (gi_t pz_X3_goesWithoutFill_X3_goesWithoutFill_r1 22 rfl (gi_t pz_X3_goesWithoutFill_X3_goesWithoutFill_r1 23 rfl (gi_t pz_X3_goesWithoutFill_X3_goesWithoutFill_r2 0 rfl (gi_t pz_X3_goesWithoutFill_X3_goesWithoutFill_r2 1 rfl (gi_t pz_X3_goesWithoutFill_X3_goesWithoutFill_r1 4 rfl (gi_t pz_X3_goesWithoutFill_X3_goesWithoutFill_r2 2 rfl (gi_t pz_X3_goesWithoutFill_X3_goesWithoutFill_r1 6 rfl (gi_t pz_X3_goesWithoutFill_X3_goesWithoutFill_r2 3 rfl (gi_t pz_X3_goesWithoutFill_X3_goesWithoutFill_r2 4 rfl (gi_t pz_X3_goesWithoutFill_X3_goesWithoutFill_r2 5 rfl (gi_t pz_X3_goesWithoutFill_X3_goesWithoutFill_r2 6 rfl (gi_t pz_X3_goesWithoutFill_X3_goesWithoutFill_r2 7 rfl (gi_t pz_X3_goesWithoutFill_X3_goesWithoutFill_r2 8 rfl (gi_t pz_X3_goesWithoutFill_X3_goesWithoutFill_r2 9 rfl gi_n))))))))))))))))) pz_X3_goesWithoutFill_X30)) (by decide +kernel)
set_option maxRecDepth 20000 in
theorem gX3_goesWithoutFill_X3_leastTight : GoodIn wsX3_goesWithoutFill (wsV RX3 74 RX3 yX3_leastTight wsX3_leastTight) := goodIn_app (goodIn_of _ (by decide +kernel)) ggX3_goesWithoutFill_X3_leastTight
set_option maxRecDepth 20000 in
theorem ggX3_goesWithoutFill_X3_leave : GoodIn wsX3_goesWithoutFill wsX3_leave := goodIn_sub (gi_t pz_X3_goesWithoutFill_X3_goesWithoutFill_r2 13 rfl (gi_a (gi_t pz_X3_goesWithoutFill_X3_goesWithoutFill_r1 6 rfl (gi_t pz_X3_goesWithoutFill_X3_goesWithoutFill_r1 7 rfl (gi_t pz_X3_goesWithoutFill_X3_goesWithoutFill_r1 8 rfl (gi_t pz_X3_goesWithoutFill_X3_goesWithoutFill_r1 9 rfl (gi_t pz_X3_goesWithoutFill_X3_goesWithoutFill_r1 10 rfl (gi_t pz_X3_goesWithoutFill_X3_goesWithoutFill_r1 0 rfl (gi_t pz_X3_goesWithoutFill_X3_goesWithoutFill_r2 3 rfl (gi_t pz_X3_goesWithoutFill_X3_goesWithoutFill_r2 4 rfl (gi_t pz_X3_goesWithoutFill_X3_goesWithoutFill_r2 5 rfl (gi_t pz_X3_goesWithoutFill_X3_goesWithoutFill_r2 6 rfl (gi_t pz_X3_goesWithoutFill_X3_goesWithoutFill_r2 7 rfl (gi_t pz_X3_goesWithoutFill_X3_goesWithoutFill_r2 8 rfl (gi_t pz_X3_goesWithoutFill_X3_goesWithoutFill_r1 21 rfl (gi_t pz_X3_goesWithoutFill_X3_goesWithoutFill_r2 9 rfl gi_n)))))))))))))) pz_X3_goesWithoutFill_X30)) (by decide +kernel)
set_option maxRecDepth 20000 in
theorem gX3_goesWithoutFill_X3_leave : GoodIn wsX3_goesWithoutFill (wsV RX3 77 RX3 yX3_leave wsX3_leave) := goodIn_app (goodIn_of _ (by decide +kernel)) ggX3_goesWithoutFill_X3_leave
theorem dX3_goesWithoutFill_0 : decode cX3_goesWithoutFill 0 = .ok (.aload_n 0, 1) := by decide +kernel
theorem dX3_goesWithoutFill_1 : decode cX3_goesWithoutFill 1 = .ok (.aload_n 1, 1) := by decide +kernel
theorem dX3_goesWithoutFill_2 : decode cX3_goesWithoutFill 2 = .ok (.invokevirtual 66, 3) := by decide +kernel
theorem dX3_goesWithoutFill_5 : decode cX3_goesWithoutFill 5 = .ok (.aload_n 1, 1) := by decide +kernel
theorem dX3_goesWithoutFill_6 : decode cX3_goesWithoutFill 6 = .ok (.invokevirtual 70, 3) := by decide +kernel
theorem dX3_goesWithoutFill_9 : decode cX3_goesWithoutFill 9 = .ok (.istore_n 2, 1) := by decide +kernel
theorem dX3_goesWithoutFill_10 : decode cX3_goesWithoutFill 10 = .ok (.iconst 0, 1) := by decide +kernel
theorem dX3_goesWithoutFill_11 : decode cX3_goesWithoutFill 11 = .ok (.istore_n 3, 1) := by decide +kernel
theorem dX3_goesWithoutFill_12 : decode cX3_goesWithoutFill 12 = .ok (.iload_n 3, 1) := by decide +kernel
theorem dX3_goesWithoutFill_13 : decode cX3_goesWithoutFill 13 = .ok (.aload_n 0, 1) := by decide +kernel
theorem dX3_goesWithoutFill_14 : decode cX3_goesWithoutFill 14 = .ok (.getfield 16, 3) := by decide +kernel
theorem dX3_goesWithoutFill_17 : decode cX3_goesWithoutFill 17 = .ok (.if_icmp .ge 40, 3) := by decide +kernel
theorem dX3_goesWithoutFill_20 : decode cX3_goesWithoutFill 20 = .ok (.aload_n 0, 1) := by decide +kernel
theorem dX3_goesWithoutFill_21 : decode cX3_goesWithoutFill 21 = .ok (.iload_n 3, 1) := by decide +kernel
theorem dX3_goesWithoutFill_22 : decode cX3_goesWithoutFill 22 = .ok (.iload_n 2, 1) := by decide +kernel
theorem dX3_goesWithoutFill_23 : decode cX3_goesWithoutFill 23 = .ok (.invokevirtual 74, 3) := by decide +kernel
theorem dX3_goesWithoutFill_26 : decode cX3_goesWithoutFill 26 = .ok (.istore 4, 2) := by decide +kernel
theorem dX3_goesWithoutFill_28 : decode cX3_goesWithoutFill 28 = .ok (.iload 4, 2) := by decide +kernel
theorem dX3_goesWithoutFill_30 : decode cX3_goesWithoutFill 30 = .ok (.ifCond .ge 5, 3) := by decide +kernel
theorem dX3_goesWithoutFill_33 : decode cX3_goesWithoutFill 33 = .ok (.iconst 0, 1) := by decide +kernel
theorem dX3_goesWithoutFill_34 : decode cX3_goesWithoutFill 34 = .ok (.ireturn, 1) := by decide +kernel
theorem dX3_goesWithoutFill_35 : decode cX3_goesWithoutFill 35 = .ok (.aload_n 0, 1) := by decide +kernel
theorem dX3_goesWithoutFill_36 : decode cX3_goesWithoutFill 36 = .ok (.iload_n 3, 1) := by decide +kernel
theorem dX3_goesWithoutFill_37 : decode cX3_goesWithoutFill 37 = .ok (.iload 4, 2) := by decide +kernel
theorem dX3_goesWithoutFill_39 : decode cX3_goesWithoutFill 39 = .ok (.invokevirtual 77, 3) := by decide +kernel
theorem dX3_goesWithoutFill_42 : decode cX3_goesWithoutFill 42 = .ok (.iload_n 2, 1) := by decide +kernel
theorem dX3_goesWithoutFill_43 : decode cX3_goesWithoutFill 43 = .ok (.iconst 1, 1) := by decide +kernel
theorem dX3_goesWithoutFill_44 : decode cX3_goesWithoutFill 44 = .ok (.iload 4, 2) := by decide +kernel
theorem dX3_goesWithoutFill_46 : decode cX3_goesWithoutFill 46 = .ok (.ishl, 1) := by decide +kernel
theorem dX3_goesWithoutFill_47 : decode cX3_goesWithoutFill 47 = .ok (.iconst (-1), 1) := by decide +kernel
theorem dX3_goesWithoutFill_48 : decode cX3_goesWithoutFill 48 = .ok (.ixor, 1) := by decide +kernel
theorem dX3_goesWithoutFill_49 : decode cX3_goesWithoutFill 49 = .ok (.iand, 1) := by decide +kernel
theorem dX3_goesWithoutFill_50 : decode cX3_goesWithoutFill 50 = .ok (.istore_n 2, 1) := by decide +kernel
theorem dX3_goesWithoutFill_51 : decode cX3_goesWithoutFill 51 = .ok (.iinc 3 1, 3) := by decide +kernel
theorem dX3_goesWithoutFill_54 : decode cX3_goesWithoutFill 54 = .ok (.goto (-42), 3) := by decide +kernel
theorem dX3_goesWithoutFill_57 : decode cX3_goesWithoutFill 57 = .ok (.iconst 1, 1) := by decide +kernel
theorem dX3_goesWithoutFill_58 : decode cX3_goesWithoutFill 58 = .ok (.ireturn, 1) := by decide +kernel
theorem dX4_has_0 : decode cX4_has 0 = .ok (.iload_n 1, 1) := by decide +kernel
theorem dX4_has_1 : decode cX4_has 1 = .ok (.ifCond .lt 15, 3) := by decide +kernel
theorem dX4_has_4 : decode cX4_has 4 = .ok (.iload_n 1, 1) := by decide +kernel
theorem dX4_has_5 : decode cX4_has 5 = .ok (.aload_n 0, 1) := by decide +kernel
theorem dX4_has_6 : decode cX4_has 6 = .ok (.getfield 15, 3) := by decide +kernel
theorem dX4_has_9 : decode cX4_has 9 = .ok (.if_icmp .ge 7, 3) := by decide +kernel
theorem dX4_has_12 : decode cX4_has 12 = .ok (.iconst 1, 1) := by decide +kernel
theorem dX4_has_13 : decode cX4_has 13 = .ok (.goto 4, 3) := by decide +kernel
theorem dX4_has_16 : decode cX4_has 16 = .ok (.iconst 0, 1) := by decide +kernel
theorem dX4_has_17 : decode cX4_has 17 = .ok (.ireturn, 1) := by decide +kernel
theorem dX4_all_0 : decode cX4_all 0 = .ok (.iconst 1, 1) := by decide +kernel
theorem dX4_all_1 : decode cX4_all 1 = .ok (.aload_n 0, 1) := by decide +kernel
theorem dX4_all_2 : decode cX4_all 2 = .ok (.getfield 15, 3) := by decide +kernel
theorem dX4_all_5 : decode cX4_all 5 = .ok (.ishl, 1) := by decide +kernel
theorem dX4_all_6 : decode cX4_all 6 = .ok (.iconst 1, 1) := by decide +kernel
theorem dX4_all_7 : decode cX4_all 7 = .ok (.isub, 1) := by decide +kernel
theorem dX4_all_8 : decode cX4_all 8 = .ok (.ireturn, 1) := by decide +kernel
set_option maxRecDepth 20000 in
theorem ggX4_touches_X11_in : GoodIn wsX4_touches wsX11_in := goodIn_sub (gi_c 4 rfl gi_n) (by decide +kernel)
set_option maxRecDepth 20000 in
theorem gX4_touches_X11_in_n22 : GoodIn wsX4_touches (wsX11_in) := ggX4_touches_X11_in
theorem dX4_touches_0 : decode cX4_touches 0 = .ok (.aload_n 0, 1) := by decide +kernel
theorem dX4_touches_1 : decode cX4_touches 1 = .ok (.getfield 9, 3) := by decide +kernel
theorem dX4_touches_4 : decode cX4_touches 4 = .ok (.iload_n 1, 1) := by decide +kernel
theorem dX4_touches_5 : decode cX4_touches 5 = .ok (.iaload, 1) := by decide +kernel
theorem dX4_touches_6 : decode cX4_touches 6 = .ok (.iload_n 2, 1) := by decide +kernel
theorem dX4_touches_7 : decode cX4_touches 7 = .ok (.invokestatic 22, 3) := by decide +kernel
theorem dX4_touches_10 : decode cX4_touches 10 = .ok (.ireturn, 1) := by decide +kernel
set_option maxRecDepth 20000 in
theorem ggX4_restart_J7_fill_53178 : GoodIn wsX4_restart wsJ7_fill_53178 := goodIn_sub (gi_c 7 rfl gi_n) (by decide +kernel)
set_option maxRecDepth 20000 in
theorem gX4_restart_J7_fill_53178 : GoodIn wsX4_restart (va_wsS RX4 26 yJ7_fill_53178 wsJ7_fill_53178) := goodIn_app (goodIn_of _ (by decide +kernel)) ggX4_restart_J7_fill_53178
theorem dX4_restart_0 : decode cX4_restart 0 = .ok (.aload_n 0, 1) := by decide +kernel
theorem dX4_restart_1 : decode cX4_restart 1 = .ok (.iload_n 1, 1) := by decide +kernel
theorem dX4_restart_2 : decode cX4_restart 2 = .ok (.putfield 15, 3) := by decide +kernel
theorem dX4_restart_5 : decode cX4_restart 5 = .ok (.aload_n 0, 1) := by decide +kernel
theorem dX4_restart_6 : decode cX4_restart 6 = .ok (.getfield 9, 3) := by decide +kernel
theorem dX4_restart_9 : decode cX4_restart 9 = .ok (.iconst 0, 1) := by decide +kernel
theorem dX4_restart_10 : decode cX4_restart 10 = .ok (.invokestatic 26, 3) := by decide +kernel
theorem dX4_restart_13 : decode cX4_restart 13 = .ok (.aload_n 0, 1) := by decide +kernel
theorem dX4_restart_14 : decode cX4_restart 14 = .ok (.dup, 1) := by decide +kernel
theorem dX4_restart_15 : decode cX4_restart 15 = .ok (.getfield 19, 3) := by decide +kernel
theorem dX4_restart_18 : decode cX4_restart 18 = .ok (.iconst 1, 1) := by decide +kernel
theorem dX4_restart_19 : decode cX4_restart 19 = .ok (.iadd, 1) := by decide +kernel
theorem dX4_restart_20 : decode cX4_restart 20 = .ok (.putfield 19, 3) := by decide +kernel
theorem dX4_restart_23 : decode cX4_restart 23 = .ok (.return_, 1) := by decide +kernel
theorem dX4_set_0 : decode cX4_set 0 = .ok (.aload_n 0, 1) := by decide +kernel
theorem dX4_set_1 : decode cX4_set 1 = .ok (.getfield 9, 3) := by decide +kernel
theorem dX4_set_4 : decode cX4_set 4 = .ok (.iload_n 1, 1) := by decide +kernel
theorem dX4_set_5 : decode cX4_set 5 = .ok (.iload_n 3, 1) := by decide +kernel
theorem dX4_set_6 : decode cX4_set 6 = .ok (.ifCond .eq 16, 3) := by decide +kernel
theorem dX4_set_9 : decode cX4_set 9 = .ok (.aload_n 0, 1) := by decide +kernel
theorem dX4_set_10 : decode cX4_set 10 = .ok (.getfield 9, 3) := by decide +kernel
theorem dX4_set_13 : decode cX4_set 13 = .ok (.iload_n 1, 1) := by decide +kernel
theorem dX4_set_14 : decode cX4_set 14 = .ok (.iaload, 1) := by decide +kernel
theorem dX4_set_15 : decode cX4_set 15 = .ok (.iconst 1, 1) := by decide +kernel
theorem dX4_set_16 : decode cX4_set 16 = .ok (.iload_n 2, 1) := by decide +kernel
theorem dX4_set_17 : decode cX4_set 17 = .ok (.ishl, 1) := by decide +kernel
theorem dX4_set_18 : decode cX4_set 18 = .ok (.ior, 1) := by decide +kernel
theorem dX4_set_19 : decode cX4_set 19 = .ok (.goto 15, 3) := by decide +kernel
theorem dX4_set_22 : decode cX4_set 22 = .ok (.aload_n 0, 1) := by decide +kernel
theorem dX4_set_23 : decode cX4_set 23 = .ok (.getfield 9, 3) := by decide +kernel
theorem dX4_set_26 : decode cX4_set 26 = .ok (.iload_n 1, 1) := by decide +kernel
theorem dX4_set_27 : decode cX4_set 27 = .ok (.iaload, 1) := by decide +kernel
theorem dX4_set_28 : decode cX4_set 28 = .ok (.iconst 1, 1) := by decide +kernel
theorem dX4_set_29 : decode cX4_set 29 = .ok (.iload_n 2, 1) := by decide +kernel
theorem dX4_set_30 : decode cX4_set 30 = .ok (.ishl, 1) := by decide +kernel
theorem dX4_set_31 : decode cX4_set 31 = .ok (.iconst (-1), 1) := by decide +kernel
theorem dX4_set_32 : decode cX4_set 32 = .ok (.ixor, 1) := by decide +kernel
theorem dX4_set_33 : decode cX4_set 33 = .ok (.iand, 1) := by decide +kernel
theorem dX4_set_34 : decode cX4_set 34 = .ok (.iastore, 1) := by decide +kernel
theorem dX4_set_35 : decode cX4_set 35 = .ok (.aload_n 0, 1) := by decide +kernel
theorem dX4_set_36 : decode cX4_set 36 = .ok (.getfield 9, 3) := by decide +kernel
theorem dX4_set_39 : decode cX4_set 39 = .ok (.iload_n 2, 1) := by decide +kernel
theorem dX4_set_40 : decode cX4_set 40 = .ok (.iload_n 3, 1) := by decide +kernel
theorem dX4_set_41 : decode cX4_set 41 = .ok (.ifCond .eq 16, 3) := by decide +kernel
theorem dX4_set_44 : decode cX4_set 44 = .ok (.aload_n 0, 1) := by decide +kernel
theorem dX4_set_45 : decode cX4_set 45 = .ok (.getfield 9, 3) := by decide +kernel
theorem dX4_set_48 : decode cX4_set 48 = .ok (.iload_n 2, 1) := by decide +kernel
theorem dX4_set_49 : decode cX4_set 49 = .ok (.iaload, 1) := by decide +kernel
theorem dX4_set_50 : decode cX4_set 50 = .ok (.iconst 1, 1) := by decide +kernel
theorem dX4_set_51 : decode cX4_set 51 = .ok (.iload_n 1, 1) := by decide +kernel
theorem dX4_set_52 : decode cX4_set 52 = .ok (.ishl, 1) := by decide +kernel
theorem dX4_set_53 : decode cX4_set 53 = .ok (.ior, 1) := by decide +kernel
theorem dX4_set_54 : decode cX4_set 54 = .ok (.goto 15, 3) := by decide +kernel
theorem dX4_set_57 : decode cX4_set 57 = .ok (.aload_n 0, 1) := by decide +kernel
theorem dX4_set_58 : decode cX4_set 58 = .ok (.getfield 9, 3) := by decide +kernel
theorem dX4_set_61 : decode cX4_set 61 = .ok (.iload_n 2, 1) := by decide +kernel
theorem dX4_set_62 : decode cX4_set 62 = .ok (.iaload, 1) := by decide +kernel
theorem dX4_set_63 : decode cX4_set 63 = .ok (.iconst 1, 1) := by decide +kernel
theorem dX4_set_64 : decode cX4_set 64 = .ok (.iload_n 1, 1) := by decide +kernel
theorem dX4_set_65 : decode cX4_set 65 = .ok (.ishl, 1) := by decide +kernel
theorem dX4_set_66 : decode cX4_set 66 = .ok (.iconst (-1), 1) := by decide +kernel
theorem dX4_set_67 : decode cX4_set 67 = .ok (.ixor, 1) := by decide +kernel
theorem dX4_set_68 : decode cX4_set 68 = .ok (.iand, 1) := by decide +kernel
theorem dX4_set_69 : decode cX4_set 69 = .ok (.iastore, 1) := by decide +kernel
theorem dX4_set_70 : decode cX4_set 70 = .ok (.aload_n 0, 1) := by decide +kernel
theorem dX4_set_71 : decode cX4_set 71 = .ok (.dup, 1) := by decide +kernel
theorem dX4_set_72 : decode cX4_set 72 = .ok (.getfield 19, 3) := by decide +kernel
theorem dX4_set_75 : decode cX4_set 75 = .ok (.iconst 1, 1) := by decide +kernel
theorem dX4_set_76 : decode cX4_set 76 = .ok (.iadd, 1) := by decide +kernel
theorem dX4_set_77 : decode cX4_set 77 = .ok (.putfield 19, 3) := by decide +kernel
theorem dX4_set_80 : decode cX4_set 80 = .ok (.return_, 1) := by decide +kernel
set_option maxRecDepth 20000 in
theorem ggX4_joinAll_X11_in : GoodIn wsX4_joinAll wsX11_in := goodIn_sub (gi_c 6 rfl gi_n) (by decide +kernel)
set_option maxRecDepth 20000 in
theorem gX4_joinAll_X11_in_n22 : GoodIn wsX4_joinAll (wsX11_in) := ggX4_joinAll_X11_in
theorem dX4_joinAll_0 : decode cX4_joinAll 0 = .ok (.iconst 0, 1) := by decide +kernel
theorem dX4_joinAll_1 : decode cX4_joinAll 1 = .ok (.istore_n 2, 1) := by decide +kernel
theorem dX4_joinAll_2 : decode cX4_joinAll 2 = .ok (.iload_n 2, 1) := by decide +kernel
theorem dX4_joinAll_3 : decode cX4_joinAll 3 = .ok (.aload_n 0, 1) := by decide +kernel
theorem dX4_joinAll_4 : decode cX4_joinAll 4 = .ok (.getfield 15, 3) := by decide +kernel
theorem dX4_joinAll_7 : decode cX4_joinAll 7 = .ok (.if_icmp .ge 33, 3) := by decide +kernel
theorem dX4_joinAll_10 : decode cX4_joinAll 10 = .ok (.iload_n 1, 1) := by decide +kernel
theorem dX4_joinAll_11 : decode cX4_joinAll 11 = .ok (.iload_n 2, 1) := by decide +kernel
theorem dX4_joinAll_12 : decode cX4_joinAll 12 = .ok (.invokestatic 22, 3) := by decide +kernel
theorem dX4_joinAll_15 : decode cX4_joinAll 15 = .ok (.ifCond .eq 19, 3) := by decide +kernel
theorem dX4_joinAll_18 : decode cX4_joinAll 18 = .ok (.aload_n 0, 1) := by decide +kernel
theorem dX4_joinAll_19 : decode cX4_joinAll 19 = .ok (.getfield 9, 3) := by decide +kernel
theorem dX4_joinAll_22 : decode cX4_joinAll 22 = .ok (.iload_n 2, 1) := by decide +kernel
theorem dX4_joinAll_23 : decode cX4_joinAll 23 = .ok (.dup2, 1) := by decide +kernel
theorem dX4_joinAll_24 : decode cX4_joinAll 24 = .ok (.iaload, 1) := by decide +kernel
theorem dX4_joinAll_25 : decode cX4_joinAll 25 = .ok (.iload_n 1, 1) := by decide +kernel
theorem dX4_joinAll_26 : decode cX4_joinAll 26 = .ok (.iconst 1, 1) := by decide +kernel
theorem dX4_joinAll_27 : decode cX4_joinAll 27 = .ok (.iload_n 2, 1) := by decide +kernel
theorem dX4_joinAll_28 : decode cX4_joinAll 28 = .ok (.ishl, 1) := by decide +kernel
theorem dX4_joinAll_29 : decode cX4_joinAll 29 = .ok (.iconst (-1), 1) := by decide +kernel
theorem dX4_joinAll_30 : decode cX4_joinAll 30 = .ok (.ixor, 1) := by decide +kernel
theorem dX4_joinAll_31 : decode cX4_joinAll 31 = .ok (.iand, 1) := by decide +kernel
theorem dX4_joinAll_32 : decode cX4_joinAll 32 = .ok (.ior, 1) := by decide +kernel
theorem dX4_joinAll_33 : decode cX4_joinAll 33 = .ok (.iastore, 1) := by decide +kernel
theorem dX4_joinAll_34 : decode cX4_joinAll 34 = .ok (.iinc 2 1, 3) := by decide +kernel
theorem dX4_joinAll_37 : decode cX4_joinAll 37 = .ok (.goto (-35), 3) := by decide +kernel
theorem dX4_joinAll_40 : decode cX4_joinAll 40 = .ok (.aload_n 0, 1) := by decide +kernel
theorem dX4_joinAll_41 : decode cX4_joinAll 41 = .ok (.dup, 1) := by decide +kernel
theorem dX4_joinAll_42 : decode cX4_joinAll 42 = .ok (.getfield 19, 3) := by decide +kernel
theorem dX4_joinAll_45 : decode cX4_joinAll 45 = .ok (.iconst 1, 1) := by decide +kernel
theorem dX4_joinAll_46 : decode cX4_joinAll 46 = .ok (.iadd, 1) := by decide +kernel
theorem dX4_joinAll_47 : decode cX4_joinAll 47 = .ok (.putfield 19, 3) := by decide +kernel
theorem dX4_joinAll_50 : decode cX4_joinAll 50 = .ok (.return_, 1) := by decide +kernel
set_option maxRecDepth 20000 in
theorem ggX4_invert_X4_all : GoodIn wsX4_invert wsX4_all := goodIn_sub (gi_c 8 rfl (gi_a (gi_c 1 rfl gi_n) pz_X4_invert_X40)) (by decide +kernel)
set_option maxRecDepth 20000 in
theorem gX4_invert_X4_all : GoodIn wsX4_invert (wsV RX4 32 RX4 yX4_all wsX4_all) := goodIn_app (goodIn_of _ (by decide +kernel)) ggX4_invert_X4_all
theorem dX4_invert_0 : decode cX4_invert 0 = .ok (.iconst 0, 1) := by decide +kernel
theorem dX4_invert_1 : decode cX4_invert 1 = .ok (.istore_n 1, 1) := by decide +kernel
theorem dX4_invert_2 : decode cX4_invert 2 = .ok (.iload_n 1, 1) := by decide +kernel
theorem dX4_invert_3 : decode cX4_invert 3 = .ok (.aload_n 0, 1) := by decide +kernel
theorem dX4_invert_4 : decode cX4_invert 4 = .ok (.getfield 15, 3) := by decide +kernel
theorem dX4_invert_7 : decode cX4_invert 7 = .ok (.if_icmp .ge 34, 3) := by decide +kernel
theorem dX4_invert_10 : decode cX4_invert 10 = .ok (.aload_n 0, 1) := by decide +kernel
theorem dX4_invert_11 : decode cX4_invert 11 = .ok (.getfield 9, 3) := by decide +kernel
theorem dX4_invert_14 : decode cX4_invert 14 = .ok (.iload_n 1, 1) := by decide +kernel
theorem dX4_invert_15 : decode cX4_invert 15 = .ok (.aload_n 0, 1) := by decide +kernel
theorem dX4_invert_16 : decode cX4_invert 16 = .ok (.invokevirtual 32, 3) := by decide +kernel
theorem dX4_invert_19 : decode cX4_invert 19 = .ok (.aload_n 0, 1) := by decide +kernel
theorem dX4_invert_20 : decode cX4_invert 20 = .ok (.getfield 9, 3) := by decide +kernel
theorem dX4_invert_23 : decode cX4_invert 23 = .ok (.iload_n 1, 1) := by decide +kernel
theorem dX4_invert_24 : decode cX4_invert 24 = .ok (.iaload, 1) := by decide +kernel
theorem dX4_invert_25 : decode cX4_invert 25 = .ok (.iconst (-1), 1) := by decide +kernel
theorem dX4_invert_26 : decode cX4_invert 26 = .ok (.ixor, 1) := by decide +kernel
theorem dX4_invert_27 : decode cX4_invert 27 = .ok (.iand, 1) := by decide +kernel
theorem dX4_invert_28 : decode cX4_invert 28 = .ok (.iconst 1, 1) := by decide +kernel
theorem dX4_invert_29 : decode cX4_invert 29 = .ok (.iload_n 1, 1) := by decide +kernel
theorem dX4_invert_30 : decode cX4_invert 30 = .ok (.ishl, 1) := by decide +kernel
theorem dX4_invert_31 : decode cX4_invert 31 = .ok (.iconst (-1), 1) := by decide +kernel
theorem dX4_invert_32 : decode cX4_invert 32 = .ok (.ixor, 1) := by decide +kernel
theorem dX4_invert_33 : decode cX4_invert 33 = .ok (.iand, 1) := by decide +kernel
theorem dX4_invert_34 : decode cX4_invert 34 = .ok (.iastore, 1) := by decide +kernel
theorem dX4_invert_35 : decode cX4_invert 35 = .ok (.iinc 1 1, 3) := by decide +kernel
theorem dX4_invert_38 : decode cX4_invert 38 = .ok (.goto (-36), 3) := by decide +kernel
theorem dX4_invert_41 : decode cX4_invert 41 = .ok (.aload_n 0, 1) := by decide +kernel
theorem dX4_invert_42 : decode cX4_invert 42 = .ok (.dup, 1) := by decide +kernel
theorem dX4_invert_43 : decode cX4_invert 43 = .ok (.getfield 19, 3) := by decide +kernel
theorem dX4_invert_46 : decode cX4_invert 46 = .ok (.iconst 1, 1) := by decide +kernel
theorem dX4_invert_47 : decode cX4_invert 47 = .ok (.iadd, 1) := by decide +kernel
theorem dX4_invert_48 : decode cX4_invert 48 = .ok (.putfield 19, 3) := by decide +kernel
theorem dX4_invert_51 : decode cX4_invert 51 = .ok (.return_, 1) := by decide +kernel
set_option maxRecDepth 20000 in
theorem ggX4_pairs_J6_bitCount_0f7a4 : GoodIn wsX4_pairs wsJ6_bitCount_0f7a4 := goodIn_sub (gi_c 6 rfl (gi_c 7 rfl (gi_c 8 rfl (gi_c 9 rfl gi_n)))) (by decide +kernel)
set_option maxRecDepth 20000 in
theorem gX4_pairs_J6_bitCount_0f7a4 : GoodIn wsX4_pairs (va_wsS RX4 36 yJ6_bitCount_0f7a4 wsJ6_bitCount_0f7a4) := goodIn_app (goodIn_of _ (by decide +kernel)) ggX4_pairs_J6_bitCount_0f7a4
theorem dX4_pairs_0 : decode cX4_pairs 0 = .ok (.iconst 0, 1) := by decide +kernel
theorem dX4_pairs_1 : decode cX4_pairs 1 = .ok (.istore_n 1, 1) := by decide +kernel
theorem dX4_pairs_2 : decode cX4_pairs 2 = .ok (.iconst 0, 1) := by decide +kernel
theorem dX4_pairs_3 : decode cX4_pairs 3 = .ok (.istore_n 2, 1) := by decide +kernel
theorem dX4_pairs_4 : decode cX4_pairs 4 = .ok (.iload_n 2, 1) := by decide +kernel
theorem dX4_pairs_5 : decode cX4_pairs 5 = .ok (.aload_n 0, 1) := by decide +kernel
theorem dX4_pairs_6 : decode cX4_pairs 6 = .ok (.getfield 15, 3) := by decide +kernel
theorem dX4_pairs_9 : decode cX4_pairs 9 = .ok (.if_icmp .ge 21, 3) := by decide +kernel
theorem dX4_pairs_12 : decode cX4_pairs 12 = .ok (.iload_n 1, 1) := by decide +kernel
theorem dX4_pairs_13 : decode cX4_pairs 13 = .ok (.aload_n 0, 1) := by decide +kernel
theorem dX4_pairs_14 : decode cX4_pairs 14 = .ok (.getfield 9, 3) := by decide +kernel
theorem dX4_pairs_17 : decode cX4_pairs 17 = .ok (.iload_n 2, 1) := by decide +kernel
theorem dX4_pairs_18 : decode cX4_pairs 18 = .ok (.iaload, 1) := by decide +kernel
theorem dX4_pairs_19 : decode cX4_pairs 19 = .ok (.invokestatic 36, 3) := by decide +kernel
theorem dX4_pairs_22 : decode cX4_pairs 22 = .ok (.iadd, 1) := by decide +kernel
theorem dX4_pairs_23 : decode cX4_pairs 23 = .ok (.istore_n 1, 1) := by decide +kernel
theorem dX4_pairs_24 : decode cX4_pairs 24 = .ok (.iinc 2 1, 3) := by decide +kernel
theorem dX4_pairs_27 : decode cX4_pairs 27 = .ok (.goto (-23), 3) := by decide +kernel
theorem dX4_pairs_30 : decode cX4_pairs 30 = .ok (.iload_n 1, 1) := by decide +kernel
theorem dX4_pairs_31 : decode cX4_pairs 31 = .ok (.iconst 2, 1) := by decide +kernel
theorem dX4_pairs_32 : decode cX4_pairs 32 = .ok (.idiv, 1) := by decide +kernel
theorem dX4_pairs_33 : decode cX4_pairs 33 = .ok (.ireturn, 1) := by decide +kernel
set_option maxRecDepth 20000 in
theorem ggX4_isClique_X11_in : GoodIn wsX4_isClique wsX11_in := goodIn_sub (gi_c 5 rfl gi_n) (by decide +kernel)
set_option maxRecDepth 20000 in
theorem gX4_isClique_X11_in_n22 : GoodIn wsX4_isClique (wsX11_in) := ggX4_isClique_X11_in
theorem dX4_isClique_0 : decode cX4_isClique 0 = .ok (.iconst 0, 1) := by decide +kernel
theorem dX4_isClique_1 : decode cX4_isClique 1 = .ok (.istore_n 2, 1) := by decide +kernel
theorem dX4_isClique_2 : decode cX4_isClique 2 = .ok (.iload_n 2, 1) := by decide +kernel
theorem dX4_isClique_3 : decode cX4_isClique 3 = .ok (.aload_n 0, 1) := by decide +kernel
theorem dX4_isClique_4 : decode cX4_isClique 4 = .ok (.getfield 15, 3) := by decide +kernel
theorem dX4_isClique_7 : decode cX4_isClique 7 = .ok (.if_icmp .ge 35, 3) := by decide +kernel
theorem dX4_isClique_10 : decode cX4_isClique 10 = .ok (.iload_n 1, 1) := by decide +kernel
theorem dX4_isClique_11 : decode cX4_isClique 11 = .ok (.iload_n 2, 1) := by decide +kernel
theorem dX4_isClique_12 : decode cX4_isClique 12 = .ok (.invokestatic 22, 3) := by decide +kernel
theorem dX4_isClique_15 : decode cX4_isClique 15 = .ok (.ifCond .eq 21, 3) := by decide +kernel
theorem dX4_isClique_18 : decode cX4_isClique 18 = .ok (.iload_n 1, 1) := by decide +kernel
theorem dX4_isClique_19 : decode cX4_isClique 19 = .ok (.aload_n 0, 1) := by decide +kernel
theorem dX4_isClique_20 : decode cX4_isClique 20 = .ok (.getfield 9, 3) := by decide +kernel
theorem dX4_isClique_23 : decode cX4_isClique 23 = .ok (.iload_n 2, 1) := by decide +kernel
theorem dX4_isClique_24 : decode cX4_isClique 24 = .ok (.iaload, 1) := by decide +kernel
theorem dX4_isClique_25 : decode cX4_isClique 25 = .ok (.iconst (-1), 1) := by decide +kernel
theorem dX4_isClique_26 : decode cX4_isClique 26 = .ok (.ixor, 1) := by decide +kernel
theorem dX4_isClique_27 : decode cX4_isClique 27 = .ok (.iand, 1) := by decide +kernel
theorem dX4_isClique_28 : decode cX4_isClique 28 = .ok (.iconst 1, 1) := by decide +kernel
theorem dX4_isClique_29 : decode cX4_isClique 29 = .ok (.iload_n 2, 1) := by decide +kernel
theorem dX4_isClique_30 : decode cX4_isClique 30 = .ok (.ishl, 1) := by decide +kernel
theorem dX4_isClique_31 : decode cX4_isClique 31 = .ok (.if_icmp .eq 5, 3) := by decide +kernel
theorem dX4_isClique_34 : decode cX4_isClique 34 = .ok (.iconst 0, 1) := by decide +kernel
theorem dX4_isClique_35 : decode cX4_isClique 35 = .ok (.ireturn, 1) := by decide +kernel
theorem dX4_isClique_36 : decode cX4_isClique 36 = .ok (.iinc 2 1, 3) := by decide +kernel
theorem dX4_isClique_39 : decode cX4_isClique 39 = .ok (.goto (-37), 3) := by decide +kernel
theorem dX4_isClique_42 : decode cX4_isClique 42 = .ok (.iconst 1, 1) := by decide +kernel
theorem dX4_isClique_43 : decode cX4_isClique 43 = .ok (.ireturn, 1) := by decide +kernel
set_option maxRecDepth 20000 in
theorem ggX4_isLoose_X11_in : GoodIn wsX4_isLoose wsX11_in := goodIn_sub (gi_c 5 rfl gi_n) (by decide +kernel)
set_option maxRecDepth 20000 in
theorem gX4_isLoose_X11_in_n22 : GoodIn wsX4_isLoose (wsX11_in) := ggX4_isLoose_X11_in
theorem dX4_isLoose_0 : decode cX4_isLoose 0 = .ok (.iconst 0, 1) := by decide +kernel
theorem dX4_isLoose_1 : decode cX4_isLoose 1 = .ok (.istore_n 2, 1) := by decide +kernel
theorem dX4_isLoose_2 : decode cX4_isLoose 2 = .ok (.iload_n 2, 1) := by decide +kernel
theorem dX4_isLoose_3 : decode cX4_isLoose 3 = .ok (.aload_n 0, 1) := by decide +kernel
theorem dX4_isLoose_4 : decode cX4_isLoose 4 = .ok (.getfield 15, 3) := by decide +kernel
theorem dX4_isLoose_7 : decode cX4_isLoose 7 = .ok (.if_icmp .ge 30, 3) := by decide +kernel
theorem dX4_isLoose_10 : decode cX4_isLoose 10 = .ok (.iload_n 1, 1) := by decide +kernel
theorem dX4_isLoose_11 : decode cX4_isLoose 11 = .ok (.iload_n 2, 1) := by decide +kernel
theorem dX4_isLoose_12 : decode cX4_isLoose 12 = .ok (.invokestatic 22, 3) := by decide +kernel
theorem dX4_isLoose_15 : decode cX4_isLoose 15 = .ok (.ifCond .eq 16, 3) := by decide +kernel
theorem dX4_isLoose_18 : decode cX4_isLoose 18 = .ok (.iload_n 1, 1) := by decide +kernel
theorem dX4_isLoose_19 : decode cX4_isLoose 19 = .ok (.aload_n 0, 1) := by decide +kernel
theorem dX4_isLoose_20 : decode cX4_isLoose 20 = .ok (.getfield 9, 3) := by decide +kernel
theorem dX4_isLoose_23 : decode cX4_isLoose 23 = .ok (.iload_n 2, 1) := by decide +kernel
theorem dX4_isLoose_24 : decode cX4_isLoose 24 = .ok (.iaload, 1) := by decide +kernel
theorem dX4_isLoose_25 : decode cX4_isLoose 25 = .ok (.iand, 1) := by decide +kernel
theorem dX4_isLoose_26 : decode cX4_isLoose 26 = .ok (.ifCond .eq 5, 3) := by decide +kernel
theorem dX4_isLoose_29 : decode cX4_isLoose 29 = .ok (.iconst 0, 1) := by decide +kernel
theorem dX4_isLoose_30 : decode cX4_isLoose 30 = .ok (.ireturn, 1) := by decide +kernel
theorem dX4_isLoose_31 : decode cX4_isLoose 31 = .ok (.iinc 2 1, 3) := by decide +kernel
theorem dX4_isLoose_34 : decode cX4_isLoose 34 = .ok (.goto (-32), 3) := by decide +kernel
theorem dX4_isLoose_37 : decode cX4_isLoose 37 = .ok (.iconst 1, 1) := by decide +kernel
theorem dX4_isLoose_38 : decode cX4_isLoose 38 = .ok (.ireturn, 1) := by decide +kernel
set_option maxRecDepth 20000 in
theorem ggX4_around_J6_numberOfTrailingZeros_0f7a4 : GoodIn wsX4_around wsJ6_numberOfTrailingZeros_0f7a4 := goodIn_sub (gi_c 6 rfl (gi_c 7 rfl gi_n)) (by decide +kernel)
set_option maxRecDepth 20000 in
theorem gX4_around_J6_numberOfTrailingZeros_0f7a4 : GoodIn wsX4_around (va_wsS RX4 42 yJ6_numberOfTrailingZeros_0f7a4 wsJ6_numberOfTrailingZeros_0f7a4) := goodIn_app (goodIn_of _ (by decide +kernel)) ggX4_around_J6_numberOfTrailingZeros_0f7a4
set_option maxRecDepth 20000 in
theorem ggX4_around_X11_withoutLeast : GoodIn wsX4_around wsX11_withoutLeast := goodIn_sub (gi_c 10 rfl gi_n) (by decide +kernel)
set_option maxRecDepth 20000 in
theorem gX4_around_X11_withoutLeast_n45 : GoodIn wsX4_around (wsX11_withoutLeast) := ggX4_around_X11_withoutLeast
theorem dX4_around_0 : decode cX4_around 0 = .ok (.iconst 0, 1) := by decide +kernel
theorem dX4_around_1 : decode cX4_around 1 = .ok (.istore_n 2, 1) := by decide +kernel
theorem dX4_around_2 : decode cX4_around 2 = .ok (.iload_n 1, 1) := by decide +kernel
theorem dX4_around_3 : decode cX4_around 3 = .ok (.istore_n 3, 1) := by decide +kernel
theorem dX4_around_4 : decode cX4_around 4 = .ok (.iconst 0, 1) := by decide +kernel
theorem dX4_around_5 : decode cX4_around 5 = .ok (.istore 4, 2) := by decide +kernel
theorem dX4_around_7 : decode cX4_around 7 = .ok (.iload 4, 2) := by decide +kernel
theorem dX4_around_9 : decode cX4_around 9 = .ok (.aload_n 0, 1) := by decide +kernel
theorem dX4_around_10 : decode cX4_around 10 = .ok (.getfield 15, 3) := by decide +kernel
theorem dX4_around_13 : decode cX4_around 13 = .ok (.if_icmp .ge 30, 3) := by decide +kernel
theorem dX4_around_16 : decode cX4_around 16 = .ok (.iload_n 3, 1) := by decide +kernel
theorem dX4_around_17 : decode cX4_around 17 = .ok (.ifCond .eq 26, 3) := by decide +kernel
theorem dX4_around_20 : decode cX4_around 20 = .ok (.iload_n 2, 1) := by decide +kernel
theorem dX4_around_21 : decode cX4_around 21 = .ok (.aload_n 0, 1) := by decide +kernel
theorem dX4_around_22 : decode cX4_around 22 = .ok (.getfield 9, 3) := by decide +kernel
theorem dX4_around_25 : decode cX4_around 25 = .ok (.iload_n 3, 1) := by decide +kernel
theorem dX4_around_26 : decode cX4_around 26 = .ok (.invokestatic 42, 3) := by decide +kernel
theorem dX4_around_29 : decode cX4_around 29 = .ok (.iaload, 1) := by decide +kernel
theorem dX4_around_30 : decode cX4_around 30 = .ok (.ior, 1) := by decide +kernel
theorem dX4_around_31 : decode cX4_around 31 = .ok (.istore_n 2, 1) := by decide +kernel
theorem dX4_around_32 : decode cX4_around 32 = .ok (.iload_n 3, 1) := by decide +kernel
theorem dX4_around_33 : decode cX4_around 33 = .ok (.invokestatic 45, 3) := by decide +kernel
theorem dX4_around_36 : decode cX4_around 36 = .ok (.istore_n 3, 1) := by decide +kernel
theorem dX4_around_37 : decode cX4_around 37 = .ok (.iinc 4 1, 3) := by decide +kernel
theorem dX4_around_40 : decode cX4_around 40 = .ok (.goto (-33), 3) := by decide +kernel
theorem dX4_around_43 : decode cX4_around 43 = .ok (.iload_n 2, 1) := by decide +kernel
theorem dX4_around_44 : decode cX4_around 44 = .ok (.iload_n 1, 1) := by decide +kernel
theorem dX4_around_45 : decode cX4_around 45 = .ok (.iconst (-1), 1) := by decide +kernel
theorem dX4_around_46 : decode cX4_around 46 = .ok (.ixor, 1) := by decide +kernel
theorem dX4_around_47 : decode cX4_around 47 = .ok (.iand, 1) := by decide +kernel
theorem dX4_around_48 : decode cX4_around 48 = .ok (.ireturn, 1) := by decide +kernel
set_option maxRecDepth 20000 in
theorem ggX4_reach_X11_reached : GoodIn wsX4_reach wsX11_reached := goodIn_sub (gi_c 4 rfl (gi_c 5 rfl (gi_c 6 rfl (gi_c 7 rfl (gi_c 8 rfl (gi_c 9 rfl (gi_c 10 rfl (gi_c 11 rfl (gi_c 3 rfl (gi_c 12 rfl gi_n)))))))))) (by decide +kernel)
set_option maxRecDepth 20000 in
theorem gX4_reach_X11_reached_n48 : GoodIn wsX4_reach (wsX11_reached) := ggX4_reach_X11_reached
theorem dX4_reach_0 : decode cX4_reach 0 = .ok (.aload_n 0, 1) := by decide +kernel
theorem dX4_reach_1 : decode cX4_reach 1 = .ok (.getfield 9, 3) := by decide +kernel
theorem dX4_reach_4 : decode cX4_reach 4 = .ok (.iload_n 1, 1) := by decide +kernel
theorem dX4_reach_5 : decode cX4_reach 5 = .ok (.iload_n 2, 1) := by decide +kernel
theorem dX4_reach_6 : decode cX4_reach 6 = .ok (.invokestatic 48, 3) := by decide +kernel
theorem dX4_reach_9 : decode cX4_reach 9 = .ok (.ireturn, 1) := by decide +kernel
set_option maxRecDepth 20000 in
theorem ggX5_begin_X3_start : GoodIn wsX5_begin wsX3_start := goodIn_sub (gi_t pz_X5_begin_X5_begin_r1 8 rfl (gi_a (gi_a (gi_t pz_X5_begin_X5_begin_r1 9 rfl (gi_t pz_X5_begin_X5_begin_r1 10 rfl (gi_t pz_X5_begin_X5_begin_r1 11 rfl (gi_t pz_X5_begin_X5_begin_r1 12 rfl (gi_t pz_X5_begin_X5_begin_r1 13 rfl (gi_t pz_X5_begin_X5_begin_r1 14 rfl gi_n)))))) pz_X5_begin_X40) pz_X5_begin_X30)) (by decide +kernel)
set_option maxRecDepth 20000 in
theorem gX5_begin_X3_start_n37 : GoodIn wsX5_begin (wsX3_start) := ggX5_begin_X3_start
set_option maxRecDepth 20000 in
theorem ggX5_begin_X4_all : GoodIn wsX5_begin wsX4_all := goodIn_sub (gi_t pz_X5_begin_X5_begin_r1 18 rfl (gi_a (gi_t pz_X5_begin_X5_begin_r1 19 rfl gi_n) pz_X5_begin_X40)) (by decide +kernel)
set_option maxRecDepth 20000 in
theorem gX5_begin_X4_all_n41 : GoodIn wsX5_begin (wsX4_all) := ggX5_begin_X4_all
set_option maxRecDepth 20000 in
theorem ggX5_begin_J7_fill_fda19 : GoodIn wsX5_begin wsJ7_fill_fda19 := goodIn_sub (gi_t pz_X5_begin_X5_begin_r1 23 rfl (gi_t pz_X5_begin_X5_begin_r2 0 rfl (gi_t pz_X5_begin_X5_begin_r2 1 rfl (gi_t pz_X5_begin_X5_begin_r1 22 rfl (gi_t pz_X5_begin_X5_begin_r2 2 rfl gi_n))))) (by decide +kernel)
set_option maxRecDepth 20000 in
theorem gX5_begin_J7_fill_fda19 : GoodIn wsX5_begin (va_wsS RX5 47 yJ7_fill_fda19 wsJ7_fill_fda19) := goodIn_app (goodIn_of _ (by decide +kernel)) ggX5_begin_J7_fill_fda19
set_option maxRecDepth 20000 in
theorem ggX5_begin_X5_leastFrom : GoodIn wsX5_begin wsX5_leastFrom := goodIn_sub (gi_t pz_X5_begin_X5_begin_r2 6 rfl (gi_a (gi_a (gi_a (gi_t pz_X5_begin_X5_begin_r1 3 rfl (gi_t pz_X5_begin_X5_begin_r1 4 rfl (gi_t pz_X5_begin_X5_begin_r1 2 rfl (gi_t pz_X5_begin_X5_begin_r2 7 rfl (gi_t pz_X5_begin_X5_begin_r1 0 rfl (gi_t pz_X5_begin_X5_begin_r2 8 rfl (gi_t pz_X5_begin_X5_begin_r2 9 rfl (gi_t pz_X5_begin_X5_begin_r2 10 rfl (gi_t pz_X5_begin_X5_begin_r2 11 rfl (gi_t pz_X5_begin_X5_begin_r2 12 rfl (gi_t pz_X5_begin_X5_begin_r2 13 rfl (gi_t pz_X5_begin_X5_begin_r2 14 rfl (gi_t pz_X5_begin_X5_begin_r2 5 rfl (gi_t pz_X5_begin_X5_begin_r2 15 rfl (gi_t pz_X5_begin_X5_begin_r1 1 rfl (gi_t pz_X5_begin_X5_begin_r2 16 rfl (gi_t pz_X5_begin_X5_begin_r2 17 rfl (gi_t pz_X5_begin_X5_begin_r2 18 rfl (gi_t pz_X5_begin_X5_begin_r2 19 rfl (gi_t pz_X5_begin_X5_begin_r1 6 rfl (gi_t pz_X5_begin_X5_begin_r2 20 rfl (gi_t pz_X5_begin_X5_begin_r2 21 rfl (gi_t pz_X5_begin_X5_begin_r2 22 rfl (gi_t pz_X5_begin_X5_begin_r2 23 rfl gi_n)))))))))))))))))))))))) (gi_a (gi_t pz_X5_begin_X5_begin_r3 0 rfl (gi_t pz_X5_begin_X5_begin_r3 1 rfl (gi_t pz_X5_begin_X5_begin_r1 10 rfl (gi_t pz_X5_begin_X5_begin_r1 9 rfl (gi_t pz_X5_begin_X5_begin_r3 2 rfl (gi_t pz_X5_begin_X5_begin_r3 3 rfl (gi_t pz_X5_begin_X5_begin_r3 4 rfl (gi_t pz_X5_begin_X5_begin_r3 5 rfl (gi_t pz_X5_begin_X5_begin_r3 6 rfl (gi_t pz_X5_begin_X5_begin_r3 7 rfl (gi_t pz_X5_begin_X5_begin_r3 8 rfl (gi_t pz_X5_begin_X5_begin_r3 9 rfl (gi_t pz_X5_begin_X5_begin_r3 10 rfl (gi_t pz_X5_begin_X5_begin_r3 11 rfl (gi_t pz_X5_begin_X5_begin_r3 12 rfl (gi_t pz_X5_begin_X5_begin_r3 13 rfl (gi_t pz_X5_begin_X5_begin_r3 14 rfl (gi_t pz_X5_begin_X5_begin_r3 15 rfl (gi_t pz_X5_begin_X5_begin_r3 16 rfl (gi_t pz_X5_begin_X5_begin_r3 17 rfl (gi_t pz_X5_begin_X5_begin_r3 18 rfl (gi_t pz_X5_begin_X5_begin_r3 19 rfl (gi_t pz_X5_begin_X5_begin_r3 20 rfl (gi_t pz_X5_begin_X5_begin_r3 21 rfl gi_n)))))))))))))))))))))))) (gi_a (gi_t pz_X5_begin_X5_begin_r3 22 rfl (gi_t pz_X5_begin_X5_begin_r3 23 rfl (gi_t pz_X5_begin_X5_begin_r4 0 rfl (gi_t pz_X5_begin_X5_begin_r4 1 rfl (gi_t pz_X5_begin_X5_begin_r4 2 rfl (gi_t pz_X5_begin_X5_begin_r4 3 rfl (gi_t pz_X5_begin_X5_begin_r4 4 rfl (gi_t pz_X5_begin_X5_begin_r4 5 rfl (gi_t pz_X5_begin_X5_begin_r4 6 rfl (gi_t pz_X5_begin_X5_begin_r4 7 rfl (gi_t pz_X5_begin_X5_begin_r4 8 rfl (gi_t pz_X5_begin_X5_begin_r4 9 rfl (gi_t pz_X5_begin_X5_begin_r4 10 rfl (gi_t pz_X5_begin_X5_begin_r4 11 rfl (gi_t pz_X5_begin_X5_begin_r4 12 rfl (gi_t pz_X5_begin_X5_begin_r4 13 rfl (gi_t pz_X5_begin_X5_begin_r4 14 rfl (gi_t pz_X5_begin_X5_begin_r4 15 rfl (gi_t pz_X5_begin_X5_begin_r1 11 rfl (gi_t pz_X5_begin_X5_begin_r1 12 rfl (gi_t pz_X5_begin_X5_begin_r1 13 rfl (gi_t pz_X5_begin_X5_begin_r1 14 rfl (gi_t pz_X5_begin_X5_begin_r2 3 rfl (gi_t pz_X5_begin_X5_begin_r2 4 rfl gi_n)))))))))))))))))))))))) (gi_t pz_X5_begin_X5_begin_r4 16 rfl (gi_t pz_X5_begin_X5_begin_r4 17 rfl (gi_t pz_X5_begin_X5_begin_r4 18 rfl (gi_t pz_X5_begin_X5_begin_r4 19 rfl (gi_t pz_X5_begin_X5_begin_r4 20 rfl (gi_t pz_X5_begin_X5_begin_r4 21 rfl (gi_t pz_X5_begin_X5_begin_r4 22 rfl gi_n)))))))))) pz_X5_begin_X50) pz_X5_begin_X30)) (by decide +kernel)
set_option maxRecDepth 20000 in
theorem gX5_begin_X5_leastFrom : GoodIn wsX5_begin (va_wsS RX5 53 yX5_leastFrom wsX5_leastFrom) := goodIn_app (goodIn_of _ (by decide +kernel)) ggX5_begin_X5_leastFrom
theorem dX5_begin_0 : decode cX5_begin 0 = .ok (.aload_n 0, 1) := by decide +kernel
theorem dX5_begin_1 : decode cX5_begin 1 = .ok (.getfield 12, 3) := by decide +kernel
theorem dX5_begin_4 : decode cX5_begin 4 = .ok (.aload_n 1, 1) := by decide +kernel
theorem dX5_begin_5 : decode cX5_begin 5 = .ok (.invokevirtual 37, 3) := by decide +kernel
theorem dX5_begin_8 : decode cX5_begin 8 = .ok (.aload_n 0, 1) := by decide +kernel
theorem dX5_begin_9 : decode cX5_begin 9 = .ok (.iload_n 2, 1) := by decide +kernel
theorem dX5_begin_10 : decode cX5_begin 10 = .ok (.ifCond .ne 7, 3) := by decide +kernel
theorem dX5_begin_13 : decode cX5_begin 13 = .ok (.iconst 2, 1) := by decide +kernel
theorem dX5_begin_14 : decode cX5_begin 14 = .ok (.goto 4, 3) := by decide +kernel
theorem dX5_begin_17 : decode cX5_begin 17 = .ok (.iconst 1, 1) := by decide +kernel
theorem dX5_begin_18 : decode cX5_begin 18 = .ok (.putfield 27, 3) := by decide +kernel
theorem dX5_begin_21 : decode cX5_begin 21 = .ok (.aload_n 0, 1) := by decide +kernel
theorem dX5_begin_22 : decode cX5_begin 22 = .ok (.aload_n 1, 1) := by decide +kernel
theorem dX5_begin_23 : decode cX5_begin 23 = .ok (.invokevirtual 41, 3) := by decide +kernel
theorem dX5_begin_26 : decode cX5_begin 26 = .ok (.putfield 31, 3) := by decide +kernel
theorem dX5_begin_29 : decode cX5_begin 29 = .ok (.aload_n 0, 1) := by decide +kernel
theorem dX5_begin_30 : decode cX5_begin 30 = .ok (.aload_n 1, 1) := by decide +kernel
theorem dX5_begin_31 : decode cX5_begin 31 = .ok (.getfield 46, 3) := by decide +kernel
theorem dX5_begin_34 : decode cX5_begin 34 = .ok (.putfield 34, 3) := by decide +kernel
theorem dX5_begin_37 : decode cX5_begin 37 = .ok (.aload_n 0, 1) := by decide +kernel
theorem dX5_begin_38 : decode cX5_begin 38 = .ok (.getfield 18, 3) := by decide +kernel
theorem dX5_begin_41 : decode cX5_begin 41 = .ok (.iconst 0, 1) := by decide +kernel
theorem dX5_begin_42 : decode cX5_begin 42 = .ok (.aload_n 0, 1) := by decide +kernel
theorem dX5_begin_43 : decode cX5_begin 43 = .ok (.getfield 31, 3) := by decide +kernel
theorem dX5_begin_46 : decode cX5_begin 46 = .ok (.iconst 1, 1) := by decide +kernel
theorem dX5_begin_47 : decode cX5_begin 47 = .ok (.iadd, 1) := by decide +kernel
theorem dX5_begin_48 : decode cX5_begin 48 = .ok (.iconst (-1), 1) := by decide +kernel
theorem dX5_begin_49 : decode cX5_begin 49 = .ok (.invokestatic 47, 3) := by decide +kernel
theorem dX5_begin_52 : decode cX5_begin 52 = .ok (.aload_n 0, 1) := by decide +kernel
theorem dX5_begin_53 : decode cX5_begin 53 = .ok (.getfield 18, 3) := by decide +kernel
theorem dX5_begin_56 : decode cX5_begin 56 = .ok (.aload_n 0, 1) := by decide +kernel
theorem dX5_begin_57 : decode cX5_begin 57 = .ok (.getfield 31, 3) := by decide +kernel
theorem dX5_begin_60 : decode cX5_begin 60 = .ok (.iconst 0, 1) := by decide +kernel
theorem dX5_begin_61 : decode cX5_begin 61 = .ok (.iastore, 1) := by decide +kernel
theorem dX5_begin_62 : decode cX5_begin 62 = .ok (.aload_n 0, 1) := by decide +kernel
theorem dX5_begin_63 : decode cX5_begin 63 = .ok (.iconst 0, 1) := by decide +kernel
theorem dX5_begin_64 : decode cX5_begin 64 = .ok (.iconst 0, 1) := by decide +kernel
theorem dX5_begin_65 : decode cX5_begin 65 = .ok (.invokestatic 53, 3) := by decide +kernel
theorem dX5_begin_68 : decode cX5_begin 68 = .ok (.ireturn, 1) := by decide +kernel
set_option maxRecDepth 20000 in
theorem ggX5_letFirstGo_X11_in : GoodIn wsX5_letFirstGo wsX11_in := goodIn_sub (gi_t pz_X5_letFirstGo_X5_letFirstGo_r1 5 rfl gi_n) (by decide +kernel)
set_option maxRecDepth 20000 in
theorem gX5_letFirstGo_X11_in_n57 : GoodIn wsX5_letFirstGo (wsX11_in) := ggX5_letFirstGo_X11_in
set_option maxRecDepth 20000 in
theorem ggX5_letFirstGo_X3_price : GoodIn wsX5_letFirstGo wsX3_price := goodIn_sub (gi_t pz_X5_letFirstGo_X5_letFirstGo_r1 9 rfl (gi_a (gi_a (gi_t pz_X5_letFirstGo_X5_letFirstGo_r1 10 rfl (gi_t pz_X5_letFirstGo_X5_letFirstGo_r1 11 rfl (gi_t pz_X5_letFirstGo_X5_letFirstGo_r1 12 rfl (gi_t pz_X5_letFirstGo_X5_letFirstGo_r1 7 rfl (gi_t pz_X5_letFirstGo_X5_letFirstGo_r1 13 rfl (gi_t pz_X5_letFirstGo_X5_letFirstGo_r1 14 rfl (gi_t pz_X5_letFirstGo_X5_letFirstGo_r1 15 rfl (gi_t pz_X5_letFirstGo_X5_letFirstGo_r1 16 rfl (gi_t pz_X5_letFirstGo_X5_letFirstGo_r1 17 rfl (gi_t pz_X5_letFirstGo_X5_letFirstGo_r1 18 rfl (gi_t pz_X5_letFirstGo_X5_letFirstGo_r1 19 rfl (gi_t pz_X5_letFirstGo_X5_letFirstGo_r1 20 rfl (gi_t pz_X5_letFirstGo_X5_letFirstGo_r1 21 rfl (gi_t pz_X5_letFirstGo_X5_letFirstGo_r1 4 rfl (gi_t pz_X5_letFirstGo_X5_letFirstGo_r1 22 rfl (gi_t pz_X5_letFirstGo_X5_letFirstGo_r1 23 rfl (gi_t pz_X5_letFirstGo_X5_letFirstGo_r2 0 rfl (gi_t pz_X5_letFirstGo_X5_letFirstGo_r2 1 rfl (gi_t pz_X5_letFirstGo_X5_letFirstGo_r2 2 rfl (gi_t pz_X5_letFirstGo_X5_letFirstGo_r2 3 rfl (gi_t pz_X5_letFirstGo_X5_letFirstGo_r2 4 rfl (gi_t pz_X5_letFirstGo_X5_letFirstGo_r2 5 rfl (gi_t pz_X5_letFirstGo_X5_letFirstGo_r2 6 rfl (gi_t pz_X5_letFirstGo_X5_letFirstGo_r2 7 rfl gi_n)))))))))))))))))))))))) (gi_t pz_X5_letFirstGo_X5_letFirstGo_r2 8 rfl (gi_t pz_X5_letFirstGo_X5_letFirstGo_r2 9 rfl (gi_t pz_X5_letFirstGo_X5_letFirstGo_r2 10 rfl (gi_t pz_X5_letFirstGo_X5_letFirstGo_r2 11 rfl (gi_t pz_X5_letFirstGo_X5_letFirstGo_r2 12 rfl gi_n)))))) pz_X5_letFirstGo_X30)) (by decide +kernel)
set_option maxRecDepth 20000 in
theorem gX5_letFirstGo_X3_price_n61 : GoodIn wsX5_letFirstGo (wsX3_price) := ggX5_letFirstGo_X3_price
set_option maxRecDepth 20000 in
theorem ggX5_letFirstGo_X3_leave : GoodIn wsX5_letFirstGo wsX3_leave := goodIn_sub (gi_t pz_X5_letFirstGo_X5_letFirstGo_r2 15 rfl (gi_a (gi_t pz_X5_letFirstGo_X5_letFirstGo_r1 14 rfl (gi_t pz_X5_letFirstGo_X5_letFirstGo_r2 16 rfl (gi_t pz_X5_letFirstGo_X5_letFirstGo_r2 17 rfl (gi_t pz_X5_letFirstGo_X5_letFirstGo_r2 18 rfl (gi_t pz_X5_letFirstGo_X5_letFirstGo_r2 19 rfl (gi_t pz_X5_letFirstGo_X5_letFirstGo_r1 15 rfl (gi_t pz_X5_letFirstGo_X5_letFirstGo_r1 16 rfl (gi_t pz_X5_letFirstGo_X5_letFirstGo_r1 17 rfl (gi_t pz_X5_letFirstGo_X5_letFirstGo_r1 18 rfl (gi_t pz_X5_letFirstGo_X5_letFirstGo_r1 19 rfl (gi_t pz_X5_letFirstGo_X5_letFirstGo_r1 20 rfl (gi_t pz_X5_letFirstGo_X5_letFirstGo_r1 21 rfl (gi_t pz_X5_letFirstGo_X5_letFirstGo_r1 4 rfl (gi_t pz_X5_letFirstGo_X5_letFirstGo_r1 22 rfl gi_n)))))))))))))) pz_X5_letFirstGo_X30)) (by decide +kernel)
set_option maxRecDepth 20000 in
theorem gX5_letFirstGo_X3_leave_n65 : GoodIn wsX5_letFirstGo (wsX3_leave) := ggX5_letFirstGo_X3_leave
set_option maxRecDepth 20000 in
theorem ggX5_letFirstGo_X5_leastFrom : GoodIn wsX5_letFirstGo wsX5_leastFrom := goodIn_sub (gi_t pz_X5_letFirstGo_X5_letFirstGo_r2 23 rfl (gi_a (gi_a (gi_a (gi_t pz_X5_letFirstGo_X5_letFirstGo_r1 0 rfl (gi_t pz_X5_letFirstGo_X5_letFirstGo_r3 0 rfl (gi_t pz_X5_letFirstGo_X5_letFirstGo_r3 1 rfl (gi_t pz_X5_letFirstGo_X5_letFirstGo_r3 2 rfl (gi_t pz_X5_letFirstGo_X5_letFirstGo_r1 1 rfl (gi_t pz_X5_letFirstGo_X5_letFirstGo_r3 3 rfl (gi_t pz_X5_letFirstGo_X5_letFirstGo_r3 4 rfl (gi_t pz_X5_letFirstGo_X5_letFirstGo_r3 5 rfl (gi_t pz_X5_letFirstGo_X5_letFirstGo_r3 6 rfl (gi_t pz_X5_letFirstGo_X5_letFirstGo_r3 7 rfl (gi_t pz_X5_letFirstGo_X5_letFirstGo_r3 8 rfl (gi_t pz_X5_letFirstGo_X5_letFirstGo_r3 9 rfl (gi_t pz_X5_letFirstGo_X5_letFirstGo_r2 22 rfl (gi_t pz_X5_letFirstGo_X5_letFirstGo_r3 10 rfl (gi_t pz_X5_letFirstGo_X5_letFirstGo_r1 2 rfl (gi_t pz_X5_letFirstGo_X5_letFirstGo_r1 3 rfl (gi_t pz_X5_letFirstGo_X5_letFirstGo_r1 4 rfl (gi_t pz_X5_letFirstGo_X5_letFirstGo_r1 5 rfl (gi_t pz_X5_letFirstGo_X5_letFirstGo_r1 6 rfl (gi_t pz_X5_letFirstGo_X5_letFirstGo_r1 7 rfl (gi_t pz_X5_letFirstGo_X5_letFirstGo_r1 8 rfl (gi_t pz_X5_letFirstGo_X5_letFirstGo_r1 9 rfl (gi_t pz_X5_letFirstGo_X5_letFirstGo_r1 10 rfl (gi_t pz_X5_letFirstGo_X5_letFirstGo_r1 11 rfl gi_n)))))))))))))))))))))))) (gi_a (gi_t pz_X5_letFirstGo_X5_letFirstGo_r1 12 rfl (gi_t pz_X5_letFirstGo_X5_letFirstGo_r1 13 rfl (gi_t pz_X5_letFirstGo_X5_letFirstGo_r1 14 rfl (gi_t pz_X5_letFirstGo_X5_letFirstGo_r1 15 rfl (gi_t pz_X5_letFirstGo_X5_letFirstGo_r1 16 rfl (gi_t pz_X5_letFirstGo_X5_letFirstGo_r1 17 rfl (gi_t pz_X5_letFirstGo_X5_letFirstGo_r1 18 rfl (gi_t pz_X5_letFirstGo_X5_letFirstGo_r1 19 rfl (gi_t pz_X5_letFirstGo_X5_letFirstGo_r1 20 rfl (gi_t pz_X5_letFirstGo_X5_letFirstGo_r1 21 rfl (gi_t pz_X5_letFirstGo_X5_letFirstGo_r1 22 rfl (gi_t pz_X5_letFirstGo_X5_letFirstGo_r1 23 rfl (gi_t pz_X5_letFirstGo_X5_letFirstGo_r2 0 rfl (gi_t pz_X5_letFirstGo_X5_letFirstGo_r2 1 rfl (gi_t pz_X5_letFirstGo_X5_letFirstGo_r2 2 rfl (gi_t pz_X5_letFirstGo_X5_letFirstGo_r2 3 rfl (gi_t pz_X5_letFirstGo_X5_letFirstGo_r2 4 rfl (gi_t pz_X5_letFirstGo_X5_letFirstGo_r2 5 rfl (gi_t pz_X5_letFirstGo_X5_letFirstGo_r2 6 rfl (gi_t pz_X5_letFirstGo_X5_letFirstGo_r2 7 rfl (gi_t pz_X5_letFirstGo_X5_letFirstGo_r2 8 rfl (gi_t pz_X5_letFirstGo_X5_letFirstGo_r2 9 rfl (gi_t pz_X5_letFirstGo_X5_letFirstGo_r2 10 rfl (gi_t pz_X5_letFirstGo_X5_letFirstGo_r2 11 rfl gi_n)))))))))))))))))))))))) (gi_a (gi_t pz_X5_letFirstGo_X5_letFirstGo_r2 12 rfl (gi_t pz_X5_letFirstGo_X5_letFirstGo_r3 11 rfl (gi_t pz_X5_letFirstGo_X5_letFirstGo_r3 12 rfl (gi_t pz_X5_letFirstGo_X5_letFirstGo_r3 13 rfl (gi_t pz_X5_letFirstGo_X5_letFirstGo_r3 14 rfl (gi_t pz_X5_letFirstGo_X5_letFirstGo_r3 15 rfl (gi_t pz_X5_letFirstGo_X5_letFirstGo_r3 16 rfl (gi_t pz_X5_letFirstGo_X5_letFirstGo_r3 17 rfl (gi_t pz_X5_letFirstGo_X5_letFirstGo_r3 18 rfl (gi_t pz_X5_letFirstGo_X5_letFirstGo_r3 19 rfl (gi_t pz_X5_letFirstGo_X5_letFirstGo_r3 20 rfl (gi_t pz_X5_letFirstGo_X5_letFirstGo_r3 21 rfl (gi_t pz_X5_letFirstGo_X5_letFirstGo_r3 22 rfl (gi_t pz_X5_letFirstGo_X5_letFirstGo_r3 23 rfl (gi_t pz_X5_letFirstGo_X5_letFirstGo_r4 0 rfl (gi_t pz_X5_letFirstGo_X5_letFirstGo_r2 13 rfl (gi_t pz_X5_letFirstGo_X5_letFirstGo_r2 14 rfl (gi_t pz_X5_letFirstGo_X5_letFirstGo_r2 15 rfl (gi_t pz_X5_letFirstGo_X5_letFirstGo_r2 16 rfl (gi_t pz_X5_letFirstGo_X5_letFirstGo_r2 17 rfl (gi_t pz_X5_letFirstGo_X5_letFirstGo_r2 18 rfl (gi_t pz_X5_letFirstGo_X5_letFirstGo_r2 19 rfl (gi_t pz_X5_letFirstGo_X5_letFirstGo_r2 20 rfl (gi_t pz_X5_letFirstGo_X5_letFirstGo_r2 21 rfl gi_n)))))))))))))))))))))))) (gi_t pz_X5_letFirstGo_X5_letFirstGo_r4 1 rfl (gi_t pz_X5_letFirstGo_X5_letFirstGo_r4 2 rfl (gi_t pz_X5_letFirstGo_X5_letFirstGo_r4 3 rfl (gi_t pz_X5_letFirstGo_X5_letFirstGo_r4 4 rfl (gi_t pz_X5_letFirstGo_X5_letFirstGo_r4 5 rfl (gi_t pz_X5_letFirstGo_X5_letFirstGo_r4 6 rfl (gi_t pz_X5_letFirstGo_X5_letFirstGo_r4 7 rfl gi_n)))))))))) pz_X5_letFirstGo_X50) pz_X5_letFirstGo_X30)) (by decide +kernel)
set_option maxRecDepth 20000 in
theorem gX5_letFirstGo_X5_leastFrom : GoodIn wsX5_letFirstGo (va_wsS RX5 53 yX5_leastFrom wsX5_leastFrom) := goodIn_app (goodIn_of _ (by decide +kernel)) ggX5_letFirstGo_X5_leastFrom
set_option maxRecDepth 20000 in
theorem ggX5_letFirstGo_X5_both : GoodIn wsX5_letFirstGo wsX5_both := goodIn_sub (gi_t pz_X5_letFirstGo_X5_letFirstGo_r4 4 rfl (gi_a (gi_t pz_X5_letFirstGo_X5_letFirstGo_r1 2 rfl (gi_t pz_X5_letFirstGo_X5_letFirstGo_r4 5 rfl (gi_t pz_X5_letFirstGo_X5_letFirstGo_r4 6 rfl (gi_t pz_X5_letFirstGo_X5_letFirstGo_r3 5 rfl (gi_t pz_X5_letFirstGo_X5_letFirstGo_r4 7 rfl gi_n))))) pz_X5_letFirstGo_X50)) (by decide +kernel)
set_option maxRecDepth 20000 in
theorem gX5_letFirstGo_X5_both : GoodIn wsX5_letFirstGo (wsV RX5 69 RX5 yX5_both wsX5_both) := goodIn_app (goodIn_of _ (by decide +kernel)) ggX5_letFirstGo_X5_both
theorem dX5_letFirstGo_0 : decode cX5_letFirstGo 0 = .ok (.iconst 0, 1) := by decide +kernel
theorem dX5_letFirstGo_1 : decode cX5_letFirstGo 1 = .ok (.istore 4, 2) := by decide +kernel
theorem dX5_letFirstGo_3 : decode cX5_letFirstGo 3 = .ok (.iload 4, 2) := by decide +kernel
theorem dX5_letFirstGo_5 : decode cX5_letFirstGo 5 = .ok (.aload_n 0, 1) := by decide +kernel
theorem dX5_letFirstGo_6 : decode cX5_letFirstGo 6 = .ok (.getfield 34, 3) := by decide +kernel
theorem dX5_letFirstGo_9 : decode cX5_letFirstGo 9 = .ok (.if_icmp .ge 82, 3) := by decide +kernel
theorem dX5_letFirstGo_12 : decode cX5_letFirstGo 12 = .ok (.iload_n 1, 1) := by decide +kernel
theorem dX5_letFirstGo_13 : decode cX5_letFirstGo 13 = .ok (.iload 4, 2) := by decide +kernel
theorem dX5_letFirstGo_15 : decode cX5_letFirstGo 15 = .ok (.invokestatic 57, 3) := by decide +kernel
theorem dX5_letFirstGo_18 : decode cX5_letFirstGo 18 = .ok (.ifCond .eq 9, 3) := by decide +kernel
theorem dX5_letFirstGo_21 : decode cX5_letFirstGo 21 = .ok (.sipush 1000, 3) := by decide +kernel
theorem dX5_letFirstGo_24 : decode cX5_letFirstGo 24 = .ok (.goto 17, 3) := by decide +kernel
theorem dX5_letFirstGo_27 : decode cX5_letFirstGo 27 = .ok (.aload_n 0, 1) := by decide +kernel
theorem dX5_letFirstGo_28 : decode cX5_letFirstGo 28 = .ok (.getfield 12, 3) := by decide +kernel
theorem dX5_letFirstGo_31 : decode cX5_letFirstGo 31 = .ok (.aload_n 0, 1) := by decide +kernel
theorem dX5_letFirstGo_32 : decode cX5_letFirstGo 32 = .ok (.getfield 27, 3) := by decide +kernel
theorem dX5_letFirstGo_35 : decode cX5_letFirstGo 35 = .ok (.iload_n 2, 1) := by decide +kernel
theorem dX5_letFirstGo_36 : decode cX5_letFirstGo 36 = .ok (.iload 4, 2) := by decide +kernel
theorem dX5_letFirstGo_38 : decode cX5_letFirstGo 38 = .ok (.invokevirtual 61, 3) := by decide +kernel
theorem dX5_letFirstGo_41 : decode cX5_letFirstGo 41 = .ok (.istore 5, 2) := by decide +kernel
theorem dX5_letFirstGo_43 : decode cX5_letFirstGo 43 = .ok (.iload 5, 2) := by decide +kernel
theorem dX5_letFirstGo_45 : decode cX5_letFirstGo 45 = .ok (.iload_n 3, 1) := by decide +kernel
theorem dX5_letFirstGo_46 : decode cX5_letFirstGo 46 = .ok (.if_icmp .gt 39, 3) := by decide +kernel
theorem dX5_letFirstGo_49 : decode cX5_letFirstGo 49 = .ok (.aload_n 0, 1) := by decide +kernel
theorem dX5_letFirstGo_50 : decode cX5_letFirstGo 50 = .ok (.getfield 12, 3) := by decide +kernel
theorem dX5_letFirstGo_53 : decode cX5_letFirstGo 53 = .ok (.iload_n 2, 1) := by decide +kernel
theorem dX5_letFirstGo_54 : decode cX5_letFirstGo 54 = .ok (.iload 4, 2) := by decide +kernel
theorem dX5_letFirstGo_56 : decode cX5_letFirstGo 56 = .ok (.invokevirtual 65, 3) := by decide +kernel
theorem dX5_letFirstGo_59 : decode cX5_letFirstGo 59 = .ok (.aload_n 0, 1) := by decide +kernel
theorem dX5_letFirstGo_60 : decode cX5_letFirstGo 60 = .ok (.iload 5, 2) := by decide +kernel
theorem dX5_letFirstGo_62 : decode cX5_letFirstGo 62 = .ok (.aload_n 0, 1) := by decide +kernel
theorem dX5_letFirstGo_63 : decode cX5_letFirstGo 63 = .ok (.iload_n 1, 1) := by decide +kernel
theorem dX5_letFirstGo_64 : decode cX5_letFirstGo 64 = .ok (.iconst 1, 1) := by decide +kernel
theorem dX5_letFirstGo_65 : decode cX5_letFirstGo 65 = .ok (.iload 4, 2) := by decide +kernel
theorem dX5_letFirstGo_67 : decode cX5_letFirstGo 67 = .ok (.ishl, 1) := by decide +kernel
theorem dX5_letFirstGo_68 : decode cX5_letFirstGo 68 = .ok (.ior, 1) := by decide +kernel
theorem dX5_letFirstGo_69 : decode cX5_letFirstGo 69 = .ok (.iload_n 2, 1) := by decide +kernel
theorem dX5_letFirstGo_70 : decode cX5_letFirstGo 70 = .ok (.iconst 1, 1) := by decide +kernel
theorem dX5_letFirstGo_71 : decode cX5_letFirstGo 71 = .ok (.iadd, 1) := by decide +kernel
theorem dX5_letFirstGo_72 : decode cX5_letFirstGo 72 = .ok (.invokestatic 53, 3) := by decide +kernel
theorem dX5_letFirstGo_75 : decode cX5_letFirstGo 75 = .ok (.invokevirtual 69, 3) := by decide +kernel
theorem dX5_letFirstGo_78 : decode cX5_letFirstGo 78 = .ok (.iload_n 3, 1) := by decide +kernel
theorem dX5_letFirstGo_79 : decode cX5_letFirstGo 79 = .ok (.if_icmp .gt 6, 3) := by decide +kernel
theorem dX5_letFirstGo_82 : decode cX5_letFirstGo 82 = .ok (.iload 4, 2) := by decide +kernel
theorem dX5_letFirstGo_84 : decode cX5_letFirstGo 84 = .ok (.ireturn, 1) := by decide +kernel
theorem dX5_letFirstGo_85 : decode cX5_letFirstGo 85 = .ok (.iinc 4 1, 3) := by decide +kernel
theorem dX5_letFirstGo_88 : decode cX5_letFirstGo 88 = .ok (.goto (-85), 3) := by decide +kernel
theorem dX5_letFirstGo_91 : decode cX5_letFirstGo 91 = .ok (.iconst 0, 1) := by decide +kernel
theorem dX5_letFirstGo_92 : decode cX5_letFirstGo 92 = .ok (.ireturn, 1) := by decide +kernel
theorem dX5_both_0 : decode cX5_both 0 = .ok (.aload_n 0, 1) := by decide +kernel
theorem dX5_both_1 : decode cX5_both 1 = .ok (.getfield 27, 3) := by decide +kernel
theorem dX5_both_4 : decode cX5_both 4 = .ok (.iconst 2, 1) := by decide +kernel
theorem dX5_both_5 : decode cX5_both 5 = .ok (.if_icmp .ne 9, 3) := by decide +kernel
theorem dX5_both_8 : decode cX5_both 8 = .ok (.iload_n 1, 1) := by decide +kernel
theorem dX5_both_9 : decode cX5_both 9 = .ok (.iload_n 2, 1) := by decide +kernel
theorem dX5_both_10 : decode cX5_both 10 = .ok (.iadd, 1) := by decide +kernel
theorem dX5_both_11 : decode cX5_both 11 = .ok (.goto 8, 3) := by decide +kernel
theorem dX5_both_14 : decode cX5_both 14 = .ok (.iload_n 1, 1) := by decide +kernel
theorem dX5_both_15 : decode cX5_both 15 = .ok (.iload_n 2, 1) := by decide +kernel
theorem dX5_both_16 : decode cX5_both 16 = .ok (.invokestatic 73, 3) := by decide +kernel
theorem dX5_both_19 : decode cX5_both 19 = .ok (.ireturn, 1) := by decide +kernel
set_option maxRecDepth 20000 in
theorem ggX5_leastFrom_X5_priceAll : GoodIn wsX5_leastFrom wsX5_priceAll := goodIn_sub (gi_t pz_X5_leastFrom_X5_leastFrom_r1 13 rfl (gi_a (gi_a (gi_a (gi_t pz_X5_leastFrom_X5_leastFrom_r1 3 rfl (gi_t pz_X5_leastFrom_X5_leastFrom_r1 0 rfl (gi_t pz_X5_leastFrom_X5_leastFrom_r1 4 rfl (gi_t pz_X5_leastFrom_X5_leastFrom_r1 14 rfl (gi_t pz_X5_leastFrom_X5_leastFrom_r1 15 rfl (gi_t pz_X5_leastFrom_X5_leastFrom_r1 16 rfl (gi_t pz_X5_leastFrom_X5_leastFrom_r1 17 rfl (gi_t pz_X5_leastFrom_X5_leastFrom_r1 18 rfl (gi_t pz_X5_leastFrom_X5_leastFrom_r1 19 rfl (gi_t pz_X5_leastFrom_X5_leastFrom_r1 20 rfl (gi_t pz_X5_leastFrom_X5_leastFrom_r1 21 rfl (gi_t pz_X5_leastFrom_X5_leastFrom_r1 22 rfl (gi_t pz_X5_leastFrom_X5_leastFrom_r1 23 rfl (gi_t pz_X5_leastFrom_X5_leastFrom_r2 0 rfl (gi_t pz_X5_leastFrom_X5_leastFrom_r2 1 rfl (gi_t pz_X5_leastFrom_X5_leastFrom_r2 2 rfl (gi_t pz_X5_leastFrom_X5_leastFrom_r2 3 rfl (gi_t pz_X5_leastFrom_X5_leastFrom_r2 4 rfl (gi_t pz_X5_leastFrom_X5_leastFrom_r2 5 rfl (gi_t pz_X5_leastFrom_X5_leastFrom_r2 6 rfl (gi_t pz_X5_leastFrom_X5_leastFrom_r2 7 rfl (gi_t pz_X5_leastFrom_X5_leastFrom_r2 8 rfl (gi_t pz_X5_leastFrom_X5_leastFrom_r2 9 rfl (gi_t pz_X5_leastFrom_X5_leastFrom_r2 10 rfl gi_n)))))))))))))))))))))))) (gi_t pz_X5_leastFrom_X5_leastFrom_r2 11 rfl (gi_t pz_X5_leastFrom_X5_leastFrom_r2 12 rfl (gi_t pz_X5_leastFrom_X5_leastFrom_r2 13 rfl (gi_t pz_X5_leastFrom_X5_leastFrom_r2 14 rfl (gi_t pz_X5_leastFrom_X5_leastFrom_r2 15 rfl (gi_t pz_X5_leastFrom_X5_leastFrom_r2 16 rfl (gi_t pz_X5_leastFrom_X5_leastFrom_r2 17 rfl (gi_t pz_X5_leastFrom_X5_leastFrom_r2 18 rfl (gi_t pz_X5_leastFrom_X5_leastFrom_r2 19 rfl (gi_t pz_X5_leastFrom_X5_leastFrom_r2 20 rfl (gi_t pz_X5_leastFrom_X5_leastFrom_r2 21 rfl (gi_t pz_X5_leastFrom_X5_leastFrom_r2 22 rfl (gi_t pz_X5_leastFrom_X5_leastFrom_r2 23 rfl (gi_t pz_X5_leastFrom_X5_leastFrom_r3 0 rfl gi_n))))))))))))))) pz_X5_leastFrom_X50) pz_X5_leastFrom_X30)) (by decide +kernel)
set_option maxRecDepth 20000 in
theorem gX5_leastFrom_X5_priceAll : GoodIn wsX5_leastFrom (wsV RX5 78 RX5 yX5_priceAll wsX5_priceAll) := goodIn_app (goodIn_of _ (by decide +kernel)) ggX5_leastFrom_X5_priceAll
set_option maxRecDepth 20000 in
theorem ggX5_leastFrom_X5_neverWrong : GoodIn wsX5_leastFrom wsX5_neverWrong := goodIn_sub (gi_t pz_X5_leastFrom_X5_leastFrom_r3 4 rfl (gi_a (gi_a (gi_a (gi_t pz_X5_leastFrom_X5_leastFrom_r1 14 rfl (gi_t pz_X5_leastFrom_X5_leastFrom_r1 4 rfl (gi_t pz_X5_leastFrom_X5_leastFrom_r1 3 rfl (gi_t pz_X5_leastFrom_X5_leastFrom_r1 0 rfl (gi_t pz_X5_leastFrom_X5_leastFrom_r3 5 rfl (gi_t pz_X5_leastFrom_X5_leastFrom_r1 19 rfl (gi_t pz_X5_leastFrom_X5_leastFrom_r3 6 rfl (gi_t pz_X5_leastFrom_X5_leastFrom_r3 7 rfl (gi_t pz_X5_leastFrom_X5_leastFrom_r2 3 rfl (gi_t pz_X5_leastFrom_X5_leastFrom_r1 15 rfl (gi_t pz_X5_leastFrom_X5_leastFrom_r1 16 rfl (gi_t pz_X5_leastFrom_X5_leastFrom_r1 17 rfl (gi_t pz_X5_leastFrom_X5_leastFrom_r1 22 rfl (gi_t pz_X5_leastFrom_X5_leastFrom_r1 23 rfl (gi_t pz_X5_leastFrom_X5_leastFrom_r2 0 rfl (gi_t pz_X5_leastFrom_X5_leastFrom_r2 1 rfl (gi_t pz_X5_leastFrom_X5_leastFrom_r2 2 rfl (gi_t pz_X5_leastFrom_X5_leastFrom_r2 4 rfl (gi_t pz_X5_leastFrom_X5_leastFrom_r2 5 rfl (gi_t pz_X5_leastFrom_X5_leastFrom_r2 6 rfl (gi_t pz_X5_leastFrom_X5_leastFrom_r2 7 rfl (gi_t pz_X5_leastFrom_X5_leastFrom_r2 8 rfl (gi_t pz_X5_leastFrom_X5_leastFrom_r2 9 rfl (gi_t pz_X5_leastFrom_X5_leastFrom_r2 10 rfl gi_n)))))))))))))))))))))))) (gi_t pz_X5_leastFrom_X5_leastFrom_r3 8 rfl (gi_t pz_X5_leastFrom_X5_leastFrom_r3 9 rfl (gi_t pz_X5_leastFrom_X5_leastFrom_r3 10 rfl (gi_t pz_X5_leastFrom_X5_leastFrom_r3 11 rfl (gi_t pz_X5_leastFrom_X5_leastFrom_r3 12 rfl (gi_t pz_X5_leastFrom_X5_leastFrom_r3 13 rfl (gi_t pz_X5_leastFrom_X5_leastFrom_r3 14 rfl gi_n)))))))) pz_X5_leastFrom_X50) pz_X5_leastFrom_X30)) (by decide +kernel)
set_option maxRecDepth 20000 in
theorem gX5_leastFrom_X5_neverWrong : GoodIn wsX5_leastFrom (wsV RX5 81 RX5 yX5_neverWrong wsX5_neverWrong) := goodIn_app (goodIn_of _ (by decide +kernel)) ggX5_leastFrom_X5_neverWrong
set_option maxRecDepth 20000 in
theorem ggX5_leastFrom_X3_leave : GoodIn wsX5_leastFrom wsX3_leave := goodIn_sub (gi_t pz_X5_leastFrom_X5_leastFrom_r3 17 rfl (gi_a (gi_t pz_X5_leastFrom_X5_leastFrom_r2 2 rfl (gi_t pz_X5_leastFrom_X5_leastFrom_r3 18 rfl (gi_t pz_X5_leastFrom_X5_leastFrom_r3 19 rfl (gi_t pz_X5_leastFrom_X5_leastFrom_r3 20 rfl (gi_t pz_X5_leastFrom_X5_leastFrom_r3 21 rfl (gi_t pz_X5_leastFrom_X5_leastFrom_r2 3 rfl (gi_t pz_X5_leastFrom_X5_leastFrom_r2 4 rfl (gi_t pz_X5_leastFrom_X5_leastFrom_r2 5 rfl (gi_t pz_X5_leastFrom_X5_leastFrom_r2 6 rfl (gi_t pz_X5_leastFrom_X5_leastFrom_r2 7 rfl (gi_t pz_X5_leastFrom_X5_leastFrom_r2 8 rfl (gi_t pz_X5_leastFrom_X5_leastFrom_r2 9 rfl (gi_t pz_X5_leastFrom_X5_leastFrom_r1 16 rfl (gi_t pz_X5_leastFrom_X5_leastFrom_r2 10 rfl gi_n)))))))))))))) pz_X5_leastFrom_X30)) (by decide +kernel)
set_option maxRecDepth 20000 in
theorem gX5_leastFrom_X3_leave_n65 : GoodIn wsX5_leastFrom (wsX3_leave) := ggX5_leastFrom_X3_leave
set_option maxRecDepth 20000 in
theorem ggX5_leastFrom_X5_leastFrom : GoodIn wsX5_leastFrom wsX5_leastFrom := goodIn_sub (gi_c 0 rfl (gi_a (gi_a (gi_a pz_X5_leastFrom_X5_leastFrom_r1 (gi_a pz_X5_leastFrom_X5_leastFrom_r2 (gi_a pz_X5_leastFrom_X5_leastFrom_r3 pz_X5_leastFrom_X5_leastFrom_r4))) pz_X5_leastFrom_X50) pz_X5_leastFrom_X30)) (by decide +kernel)
set_option maxRecDepth 20000 in
theorem gX5_leastFrom_X5_leastFrom : GoodIn wsX5_leastFrom (va_wsS RX5 53 yX5_leastFrom wsX5_leastFrom) := goodIn_app (goodIn_of _ (by decide +kernel)) ggX5_leastFrom_X5_leastFrom
set_option maxRecDepth 20000 in
theorem ggX5_leastFrom_X5_both : GoodIn wsX5_leastFrom wsX5_both := goodIn_sub (gi_t pz_X5_leastFrom_X5_leastFrom_r4 3 rfl (gi_a (gi_t pz_X5_leastFrom_X5_leastFrom_r1 14 rfl (gi_t pz_X5_leastFrom_X5_leastFrom_r4 4 rfl (gi_t pz_X5_leastFrom_X5_leastFrom_r4 5 rfl (gi_t pz_X5_leastFrom_X5_leastFrom_r1 7 rfl (gi_t pz_X5_leastFrom_X5_leastFrom_r4 6 rfl gi_n))))) pz_X5_leastFrom_X50)) (by decide +kernel)
set_option maxRecDepth 20000 in
theorem gX5_leastFrom_X5_both : GoodIn wsX5_leastFrom (wsV RX5 69 RX5 yX5_both wsX5_both) := goodIn_app (goodIn_of _ (by decide +kernel)) ggX5_leastFrom_X5_both
theorem dX5_leastFrom_0 : decode cX5_leastFrom 0 = .ok (.iload_n 2, 1) := by decide +kernel
theorem dX5_leastFrom_1 : decode cX5_leastFrom 1 = .ok (.aload_n 0, 1) := by decide +kernel
theorem dX5_leastFrom_2 : decode cX5_leastFrom 2 = .ok (.getfield 34, 3) := by decide +kernel
theorem dX5_leastFrom_5 : decode cX5_leastFrom 5 = .ok (.if_icmp .ge 13, 3) := by decide +kernel
theorem dX5_leastFrom_8 : decode cX5_leastFrom 8 = .ok (.aload_n 0, 1) := by decide +kernel
theorem dX5_leastFrom_9 : decode cX5_leastFrom 9 = .ok (.getfield 18, 3) := by decide +kernel
theorem dX5_leastFrom_12 : decode cX5_leastFrom 12 = .ok (.iload_n 1, 1) := by decide +kernel
theorem dX5_leastFrom_13 : decode cX5_leastFrom 13 = .ok (.iaload, 1) := by decide +kernel
theorem dX5_leastFrom_14 : decode cX5_leastFrom 14 = .ok (.iconst (-1), 1) := by decide +kernel
theorem dX5_leastFrom_15 : decode cX5_leastFrom 15 = .ok (.if_icmp .eq 10, 3) := by decide +kernel
theorem dX5_leastFrom_18 : decode cX5_leastFrom 18 = .ok (.aload_n 0, 1) := by decide +kernel
theorem dX5_leastFrom_19 : decode cX5_leastFrom 19 = .ok (.getfield 18, 3) := by decide +kernel
theorem dX5_leastFrom_22 : decode cX5_leastFrom 22 = .ok (.iload_n 1, 1) := by decide +kernel
theorem dX5_leastFrom_23 : decode cX5_leastFrom 23 = .ok (.iaload, 1) := by decide +kernel
theorem dX5_leastFrom_24 : decode cX5_leastFrom 24 = .ok (.ireturn, 1) := by decide +kernel
theorem dX5_leastFrom_25 : decode cX5_leastFrom 25 = .ok (.aload_n 0, 1) := by decide +kernel
theorem dX5_leastFrom_26 : decode cX5_leastFrom 26 = .ok (.getfield 31, 3) := by decide +kernel
theorem dX5_leastFrom_29 : decode cX5_leastFrom 29 = .ok (.iload_n 1, 1) := by decide +kernel
theorem dX5_leastFrom_30 : decode cX5_leastFrom 30 = .ok (.iconst (-1), 1) := by decide +kernel
theorem dX5_leastFrom_31 : decode cX5_leastFrom 31 = .ok (.ixor, 1) := by decide +kernel
theorem dX5_leastFrom_32 : decode cX5_leastFrom 32 = .ok (.iand, 1) := by decide +kernel
theorem dX5_leastFrom_33 : decode cX5_leastFrom 33 = .ok (.istore_n 3, 1) := by decide +kernel
theorem dX5_leastFrom_34 : decode cX5_leastFrom 34 = .ok (.aload_n 0, 1) := by decide +kernel
theorem dX5_leastFrom_35 : decode cX5_leastFrom 35 = .ok (.iload_n 2, 1) := by decide +kernel
theorem dX5_leastFrom_36 : decode cX5_leastFrom 36 = .ok (.iload_n 3, 1) := by decide +kernel
theorem dX5_leastFrom_37 : decode cX5_leastFrom 37 = .ok (.invokevirtual 78, 3) := by decide +kernel
theorem dX5_leastFrom_40 : decode cX5_leastFrom 40 = .ok (.istore 4, 2) := by decide +kernel
theorem dX5_leastFrom_42 : decode cX5_leastFrom 42 = .ok (.aload_n 0, 1) := by decide +kernel
theorem dX5_leastFrom_43 : decode cX5_leastFrom 43 = .ok (.iload_n 2, 1) := by decide +kernel
theorem dX5_leastFrom_44 : decode cX5_leastFrom 44 = .ok (.iload_n 3, 1) := by decide +kernel
theorem dX5_leastFrom_45 : decode cX5_leastFrom 45 = .ok (.iload 4, 2) := by decide +kernel
theorem dX5_leastFrom_47 : decode cX5_leastFrom 47 = .ok (.invokevirtual 81, 3) := by decide +kernel
theorem dX5_leastFrom_50 : decode cX5_leastFrom 50 = .ok (.istore 5, 2) := by decide +kernel
theorem dX5_leastFrom_52 : decode cX5_leastFrom 52 = .ok (.iload 5, 2) := by decide +kernel
theorem dX5_leastFrom_54 : decode cX5_leastFrom 54 = .ok (.ifCond .lt 8, 3) := by decide +kernel
theorem dX5_leastFrom_57 : decode cX5_leastFrom 57 = .ok (.iload 5, 2) := by decide +kernel
theorem dX5_leastFrom_59 : decode cX5_leastFrom 59 = .ok (.goto 5, 3) := by decide +kernel
theorem dX5_leastFrom_62 : decode cX5_leastFrom 62 = .ok (.iload 4, 2) := by decide +kernel
theorem dX5_leastFrom_64 : decode cX5_leastFrom 64 = .ok (.istore 6, 2) := by decide +kernel
theorem dX5_leastFrom_66 : decode cX5_leastFrom 66 = .ok (.iload 5, 2) := by decide +kernel
theorem dX5_leastFrom_68 : decode cX5_leastFrom 68 = .ok (.ifCond .lt 7, 3) := by decide +kernel
theorem dX5_leastFrom_71 : decode cX5_leastFrom 71 = .ok (.iconst 1, 1) := by decide +kernel
theorem dX5_leastFrom_72 : decode cX5_leastFrom 72 = .ok (.goto 9, 3) := by decide +kernel
theorem dX5_leastFrom_75 : decode cX5_leastFrom 75 = .ok (.aload_n 0, 1) := by decide +kernel
theorem dX5_leastFrom_76 : decode cX5_leastFrom 76 = .ok (.getfield 34, 3) := by decide +kernel
theorem dX5_leastFrom_79 : decode cX5_leastFrom 79 = .ok (.iconst 1, 1) := by decide +kernel
theorem dX5_leastFrom_80 : decode cX5_leastFrom 80 = .ok (.iadd, 1) := by decide +kernel
theorem dX5_leastFrom_81 : decode cX5_leastFrom 81 = .ok (.istore 7, 2) := by decide +kernel
theorem dX5_leastFrom_83 : decode cX5_leastFrom 83 = .ok (.aload_n 0, 1) := by decide +kernel
theorem dX5_leastFrom_84 : decode cX5_leastFrom 84 = .ok (.getfield 24, 3) := by decide +kernel
theorem dX5_leastFrom_87 : decode cX5_leastFrom 87 = .ok (.iload_n 2, 1) := by decide +kernel
theorem dX5_leastFrom_88 : decode cX5_leastFrom 88 = .ok (.aaload, 1) := by decide +kernel
theorem dX5_leastFrom_89 : decode cX5_leastFrom 89 = .ok (.astore 8, 2) := by decide +kernel
theorem dX5_leastFrom_91 : decode cX5_leastFrom 91 = .ok (.sipush 1000, 3) := by decide +kernel
theorem dX5_leastFrom_94 : decode cX5_leastFrom 94 = .ok (.istore 9, 2) := by decide +kernel
theorem dX5_leastFrom_96 : decode cX5_leastFrom 96 = .ok (.iconst 0, 1) := by decide +kernel
theorem dX5_leastFrom_97 : decode cX5_leastFrom 97 = .ok (.istore 10, 2) := by decide +kernel
theorem dX5_leastFrom_99 : decode cX5_leastFrom 99 = .ok (.iload 10, 2) := by decide +kernel
theorem dX5_leastFrom_101 : decode cX5_leastFrom 101 = .ok (.iload 7, 2) := by decide +kernel
theorem dX5_leastFrom_103 : decode cX5_leastFrom 103 = .ok (.if_icmp .ge 99, 3) := by decide +kernel
theorem dX5_leastFrom_106 : decode cX5_leastFrom 106 = .ok (.iload 9, 2) := by decide +kernel
theorem dX5_leastFrom_108 : decode cX5_leastFrom 108 = .ok (.aload 8, 2) := by decide +kernel
theorem dX5_leastFrom_110 : decode cX5_leastFrom 110 = .ok (.iload 4, 2) := by decide +kernel
theorem dX5_leastFrom_112 : decode cX5_leastFrom 112 = .ok (.iaload, 1) := by decide +kernel
theorem dX5_leastFrom_113 : decode cX5_leastFrom 113 = .ok (.if_icmp .le 89, 3) := by decide +kernel
theorem dX5_leastFrom_116 : decode cX5_leastFrom 116 = .ok (.iload 10, 2) := by decide +kernel
theorem dX5_leastFrom_118 : decode cX5_leastFrom 118 = .ok (.ifCond .ne 8, 3) := by decide +kernel
theorem dX5_leastFrom_121 : decode cX5_leastFrom 121 = .ok (.iload 6, 2) := by decide +kernel
theorem dX5_leastFrom_123 : decode cX5_leastFrom 123 = .ok (.goto 7, 3) := by decide +kernel
theorem dX5_leastFrom_126 : decode cX5_leastFrom 126 = .ok (.iload 10, 2) := by decide +kernel
theorem dX5_leastFrom_128 : decode cX5_leastFrom 128 = .ok (.iconst 1, 1) := by decide +kernel
theorem dX5_leastFrom_129 : decode cX5_leastFrom 129 = .ok (.isub, 1) := by decide +kernel
theorem dX5_leastFrom_130 : decode cX5_leastFrom 130 = .ok (.istore 11, 2) := by decide +kernel
theorem dX5_leastFrom_132 : decode cX5_leastFrom 132 = .ok (.iload_n 1, 1) := by decide +kernel
theorem dX5_leastFrom_133 : decode cX5_leastFrom 133 = .ok (.iconst 1, 1) := by decide +kernel
theorem dX5_leastFrom_134 : decode cX5_leastFrom 134 = .ok (.iload 11, 2) := by decide +kernel
theorem dX5_leastFrom_136 : decode cX5_leastFrom 136 = .ok (.ishl, 1) := by decide +kernel
theorem dX5_leastFrom_137 : decode cX5_leastFrom 137 = .ok (.ior, 1) := by decide +kernel
theorem dX5_leastFrom_138 : decode cX5_leastFrom 138 = .ok (.istore 12, 2) := by decide +kernel
theorem dX5_leastFrom_140 : decode cX5_leastFrom 140 = .ok (.aload 8, 2) := by decide +kernel
theorem dX5_leastFrom_142 : decode cX5_leastFrom 142 = .ok (.iload 11, 2) := by decide +kernel
theorem dX5_leastFrom_144 : decode cX5_leastFrom 144 = .ok (.iaload, 1) := by decide +kernel
theorem dX5_leastFrom_145 : decode cX5_leastFrom 145 = .ok (.iload 9, 2) := by decide +kernel
theorem dX5_leastFrom_147 : decode cX5_leastFrom 147 = .ok (.if_icmp .ge 49, 3) := by decide +kernel
theorem dX5_leastFrom_150 : decode cX5_leastFrom 150 = .ok (.aload_n 0, 1) := by decide +kernel
theorem dX5_leastFrom_151 : decode cX5_leastFrom 151 = .ok (.getfield 18, 3) := by decide +kernel
theorem dX5_leastFrom_154 : decode cX5_leastFrom 154 = .ok (.iload 12, 2) := by decide +kernel
theorem dX5_leastFrom_156 : decode cX5_leastFrom 156 = .ok (.iaload, 1) := by decide +kernel
theorem dX5_leastFrom_157 : decode cX5_leastFrom 157 = .ok (.iconst (-1), 1) := by decide +kernel
theorem dX5_leastFrom_158 : decode cX5_leastFrom 158 = .ok (.if_icmp .ne 13, 3) := by decide +kernel
theorem dX5_leastFrom_161 : decode cX5_leastFrom 161 = .ok (.aload_n 0, 1) := by decide +kernel
theorem dX5_leastFrom_162 : decode cX5_leastFrom 162 = .ok (.getfield 12, 3) := by decide +kernel
theorem dX5_leastFrom_165 : decode cX5_leastFrom 165 = .ok (.iload_n 2, 1) := by decide +kernel
theorem dX5_leastFrom_166 : decode cX5_leastFrom 166 = .ok (.iload 11, 2) := by decide +kernel
theorem dX5_leastFrom_168 : decode cX5_leastFrom 168 = .ok (.invokevirtual 65, 3) := by decide +kernel
theorem dX5_leastFrom_171 : decode cX5_leastFrom 171 = .ok (.iload 9, 2) := by decide +kernel
theorem dX5_leastFrom_173 : decode cX5_leastFrom 173 = .ok (.aload_n 0, 1) := by decide +kernel
theorem dX5_leastFrom_174 : decode cX5_leastFrom 174 = .ok (.aload 8, 2) := by decide +kernel
theorem dX5_leastFrom_176 : decode cX5_leastFrom 176 = .ok (.iload 11, 2) := by decide +kernel
theorem dX5_leastFrom_178 : decode cX5_leastFrom 178 = .ok (.iaload, 1) := by decide +kernel
theorem dX5_leastFrom_179 : decode cX5_leastFrom 179 = .ok (.aload_n 0, 1) := by decide +kernel
theorem dX5_leastFrom_180 : decode cX5_leastFrom 180 = .ok (.iload 12, 2) := by decide +kernel
theorem dX5_leastFrom_182 : decode cX5_leastFrom 182 = .ok (.iload_n 2, 1) := by decide +kernel
theorem dX5_leastFrom_183 : decode cX5_leastFrom 183 = .ok (.iconst 1, 1) := by decide +kernel
theorem dX5_leastFrom_184 : decode cX5_leastFrom 184 = .ok (.iadd, 1) := by decide +kernel
theorem dX5_leastFrom_185 : decode cX5_leastFrom 185 = .ok (.invokestatic 53, 3) := by decide +kernel
theorem dX5_leastFrom_188 : decode cX5_leastFrom 188 = .ok (.invokevirtual 69, 3) := by decide +kernel
theorem dX5_leastFrom_191 : decode cX5_leastFrom 191 = .ok (.invokestatic 84, 3) := by decide +kernel
theorem dX5_leastFrom_194 : decode cX5_leastFrom 194 = .ok (.istore 9, 2) := by decide +kernel
theorem dX5_leastFrom_196 : decode cX5_leastFrom 196 = .ok (.iinc 10 1, 3) := by decide +kernel
theorem dX5_leastFrom_199 : decode cX5_leastFrom 199 = .ok (.goto (-100), 3) := by decide +kernel
theorem dX5_leastFrom_202 : decode cX5_leastFrom 202 = .ok (.aload_n 0, 1) := by decide +kernel
theorem dX5_leastFrom_203 : decode cX5_leastFrom 203 = .ok (.getfield 18, 3) := by decide +kernel
theorem dX5_leastFrom_206 : decode cX5_leastFrom 206 = .ok (.iload_n 1, 1) := by decide +kernel
theorem dX5_leastFrom_207 : decode cX5_leastFrom 207 = .ok (.iload 9, 2) := by decide +kernel
theorem dX5_leastFrom_209 : decode cX5_leastFrom 209 = .ok (.iastore, 1) := by decide +kernel
theorem dX5_leastFrom_210 : decode cX5_leastFrom 210 = .ok (.iload 9, 2) := by decide +kernel
theorem dX5_leastFrom_212 : decode cX5_leastFrom 212 = .ok (.ireturn, 1) := by decide +kernel
set_option maxRecDepth 20000 in
theorem ggX5_priceAll_X11_in : GoodIn wsX5_priceAll wsX11_in := goodIn_sub (gi_t pz_X5_priceAll_X5_priceAll_r1 6 rfl gi_n) (by decide +kernel)
set_option maxRecDepth 20000 in
theorem gX5_priceAll_X11_in_n57 : GoodIn wsX5_priceAll (wsX11_in) := ggX5_priceAll_X11_in
set_option maxRecDepth 20000 in
theorem ggX5_priceAll_X3_price : GoodIn wsX5_priceAll wsX3_price := goodIn_sub (gi_t pz_X5_priceAll_X5_priceAll_r1 10 rfl (gi_a (gi_a (gi_t pz_X5_priceAll_X5_priceAll_r1 11 rfl (gi_t pz_X5_priceAll_X5_priceAll_r1 12 rfl (gi_t pz_X5_priceAll_X5_priceAll_r1 13 rfl (gi_t pz_X5_priceAll_X5_priceAll_r1 8 rfl (gi_t pz_X5_priceAll_X5_priceAll_r1 14 rfl (gi_t pz_X5_priceAll_X5_priceAll_r1 15 rfl (gi_t pz_X5_priceAll_X5_priceAll_r1 16 rfl (gi_t pz_X5_priceAll_X5_priceAll_r1 17 rfl (gi_t pz_X5_priceAll_X5_priceAll_r1 18 rfl (gi_t pz_X5_priceAll_X5_priceAll_r1 19 rfl (gi_t pz_X5_priceAll_X5_priceAll_r1 20 rfl (gi_t pz_X5_priceAll_X5_priceAll_r1 21 rfl (gi_t pz_X5_priceAll_X5_priceAll_r1 22 rfl (gi_t pz_X5_priceAll_X5_priceAll_r1 5 rfl (gi_t pz_X5_priceAll_X5_priceAll_r1 23 rfl (gi_t pz_X5_priceAll_X5_priceAll_r2 0 rfl (gi_t pz_X5_priceAll_X5_priceAll_r2 1 rfl (gi_t pz_X5_priceAll_X5_priceAll_r2 2 rfl (gi_t pz_X5_priceAll_X5_priceAll_r2 3 rfl (gi_t pz_X5_priceAll_X5_priceAll_r2 4 rfl (gi_t pz_X5_priceAll_X5_priceAll_r2 5 rfl (gi_t pz_X5_priceAll_X5_priceAll_r2 6 rfl (gi_t pz_X5_priceAll_X5_priceAll_r2 7 rfl (gi_t pz_X5_priceAll_X5_priceAll_r2 8 rfl gi_n)))))))))))))))))))))))) (gi_t pz_X5_priceAll_X5_priceAll_r2 9 rfl (gi_t pz_X5_priceAll_X5_priceAll_r2 10 rfl (gi_t pz_X5_priceAll_X5_priceAll_r2 11 rfl (gi_t pz_X5_priceAll_X5_priceAll_r2 12 rfl (gi_t pz_X5_priceAll_X5_priceAll_r2 13 rfl gi_n)))))) pz_X5_priceAll_X30)) (by decide +kernel)
set_option maxRecDepth 20000 in
theorem gX5_priceAll_X3_price_n61 : GoodIn wsX5_priceAll (wsX3_price) := ggX5_priceAll_X3_price
theorem dX5_priceAll_0 : decode cX5_priceAll 0 = .ok (.aload_n 0, 1) := by decide +kernel
theorem dX5_priceAll_1 : decode cX5_priceAll 1 = .ok (.getfield 24, 3) := by decide +kernel
theorem dX5_priceAll_4 : decode cX5_priceAll 4 = .ok (.iload_n 1, 1) := by decide +kernel
theorem dX5_priceAll_5 : decode cX5_priceAll 5 = .ok (.aaload, 1) := by decide +kernel
theorem dX5_priceAll_6 : decode cX5_priceAll 6 = .ok (.astore_n 3, 1) := by decide +kernel
theorem dX5_priceAll_7 : decode cX5_priceAll 7 = .ok (.iconst 0, 1) := by decide +kernel
theorem dX5_priceAll_8 : decode cX5_priceAll 8 = .ok (.istore 4, 2) := by decide +kernel
theorem dX5_priceAll_10 : decode cX5_priceAll 10 = .ok (.iconst 0, 1) := by decide +kernel
theorem dX5_priceAll_11 : decode cX5_priceAll 11 = .ok (.istore 5, 2) := by decide +kernel
theorem dX5_priceAll_13 : decode cX5_priceAll 13 = .ok (.iload 5, 2) := by decide +kernel
theorem dX5_priceAll_15 : decode cX5_priceAll 15 = .ok (.aload_n 0, 1) := by decide +kernel
theorem dX5_priceAll_16 : decode cX5_priceAll 16 = .ok (.getfield 34, 3) := by decide +kernel
theorem dX5_priceAll_19 : decode cX5_priceAll 19 = .ok (.if_icmp .ge 62, 3) := by decide +kernel
theorem dX5_priceAll_22 : decode cX5_priceAll 22 = .ok (.aload_n 3, 1) := by decide +kernel
theorem dX5_priceAll_23 : decode cX5_priceAll 23 = .ok (.iload 5, 2) := by decide +kernel
theorem dX5_priceAll_25 : decode cX5_priceAll 25 = .ok (.iload_n 2, 1) := by decide +kernel
theorem dX5_priceAll_26 : decode cX5_priceAll 26 = .ok (.iload 5, 2) := by decide +kernel
theorem dX5_priceAll_28 : decode cX5_priceAll 28 = .ok (.invokestatic 57, 3) := by decide +kernel
theorem dX5_priceAll_31 : decode cX5_priceAll 31 = .ok (.ifCond .eq 20, 3) := by decide +kernel
theorem dX5_priceAll_34 : decode cX5_priceAll 34 = .ok (.aload_n 0, 1) := by decide +kernel
theorem dX5_priceAll_35 : decode cX5_priceAll 35 = .ok (.getfield 12, 3) := by decide +kernel
theorem dX5_priceAll_38 : decode cX5_priceAll 38 = .ok (.aload_n 0, 1) := by decide +kernel
theorem dX5_priceAll_39 : decode cX5_priceAll 39 = .ok (.getfield 27, 3) := by decide +kernel
theorem dX5_priceAll_42 : decode cX5_priceAll 42 = .ok (.iload_n 1, 1) := by decide +kernel
theorem dX5_priceAll_43 : decode cX5_priceAll 43 = .ok (.iload 5, 2) := by decide +kernel
theorem dX5_priceAll_45 : decode cX5_priceAll 45 = .ok (.invokevirtual 61, 3) := by decide +kernel
theorem dX5_priceAll_48 : decode cX5_priceAll 48 = .ok (.goto 6, 3) := by decide +kernel
theorem dX5_priceAll_51 : decode cX5_priceAll 51 = .ok (.sipush 1000, 3) := by decide +kernel
theorem dX5_priceAll_54 : decode cX5_priceAll 54 = .ok (.iastore, 1) := by decide +kernel
theorem dX5_priceAll_55 : decode cX5_priceAll 55 = .ok (.aload_n 3, 1) := by decide +kernel
theorem dX5_priceAll_56 : decode cX5_priceAll 56 = .ok (.iload 5, 2) := by decide +kernel
theorem dX5_priceAll_58 : decode cX5_priceAll 58 = .ok (.iaload, 1) := by decide +kernel
theorem dX5_priceAll_59 : decode cX5_priceAll 59 = .ok (.aload_n 3, 1) := by decide +kernel
theorem dX5_priceAll_60 : decode cX5_priceAll 60 = .ok (.iload 4, 2) := by decide +kernel
theorem dX5_priceAll_62 : decode cX5_priceAll 62 = .ok (.iaload, 1) := by decide +kernel
theorem dX5_priceAll_63 : decode cX5_priceAll 63 = .ok (.if_icmp .ge 8, 3) := by decide +kernel
theorem dX5_priceAll_66 : decode cX5_priceAll 66 = .ok (.iload 5, 2) := by decide +kernel
theorem dX5_priceAll_68 : decode cX5_priceAll 68 = .ok (.goto 5, 3) := by decide +kernel
theorem dX5_priceAll_71 : decode cX5_priceAll 71 = .ok (.iload 4, 2) := by decide +kernel
theorem dX5_priceAll_73 : decode cX5_priceAll 73 = .ok (.istore 4, 2) := by decide +kernel
theorem dX5_priceAll_75 : decode cX5_priceAll 75 = .ok (.iinc 5 1, 3) := by decide +kernel
theorem dX5_priceAll_78 : decode cX5_priceAll 78 = .ok (.goto (-65), 3) := by decide +kernel
theorem dX5_priceAll_81 : decode cX5_priceAll 81 = .ok (.iload 4, 2) := by decide +kernel
theorem dX5_priceAll_83 : decode cX5_priceAll 83 = .ok (.ireturn, 1) := by decide +kernel
set_option maxRecDepth 20000 in
theorem ggX5_neverWrong_X3_leastTight : GoodIn wsX5_neverWrong wsX3_leastTight := goodIn_sub (gi_t pz_X5_neverWrong_X5_neverWrong_r1 7 rfl (gi_a (gi_t pz_X5_neverWrong_X5_neverWrong_r1 8 rfl (gi_t pz_X5_neverWrong_X5_neverWrong_r1 9 rfl (gi_t pz_X5_neverWrong_X5_neverWrong_r1 10 rfl (gi_t pz_X5_neverWrong_X5_neverWrong_r1 11 rfl (gi_t pz_X5_neverWrong_X5_neverWrong_r1 12 rfl (gi_t pz_X5_neverWrong_X5_neverWrong_r1 13 rfl (gi_t pz_X5_neverWrong_X5_neverWrong_r1 14 rfl (gi_t pz_X5_neverWrong_X5_neverWrong_r1 5 rfl (gi_t pz_X5_neverWrong_X5_neverWrong_r1 15 rfl (gi_t pz_X5_neverWrong_X5_neverWrong_r1 16 rfl (gi_t pz_X5_neverWrong_X5_neverWrong_r1 17 rfl (gi_t pz_X5_neverWrong_X5_neverWrong_r1 18 rfl (gi_t pz_X5_neverWrong_X5_neverWrong_r1 19 rfl (gi_t pz_X5_neverWrong_X5_neverWrong_r1 20 rfl (gi_t pz_X5_neverWrong_X5_neverWrong_r1 21 rfl (gi_t pz_X5_neverWrong_X5_neverWrong_r1 22 rfl (gi_t pz_X5_neverWrong_X5_neverWrong_r1 23 rfl gi_n))))))))))))))))) pz_X5_neverWrong_X30)) (by decide +kernel)
set_option maxRecDepth 20000 in
theorem gX5_neverWrong_X3_leastTight_n87 : GoodIn wsX5_neverWrong (wsX3_leastTight) := ggX5_neverWrong_X3_leastTight
set_option maxRecDepth 20000 in
theorem ggX5_neverWrong_X3_hasWayOutside : GoodIn wsX5_neverWrong wsX3_hasWayOutside := goodIn_sub (gi_t pz_X5_neverWrong_X5_neverWrong_r2 2 rfl (gi_a (gi_t pz_X5_neverWrong_X5_neverWrong_r1 16 rfl (gi_t pz_X5_neverWrong_X5_neverWrong_r1 8 rfl (gi_t pz_X5_neverWrong_X5_neverWrong_r1 9 rfl (gi_t pz_X5_neverWrong_X5_neverWrong_r1 10 rfl (gi_t pz_X5_neverWrong_X5_neverWrong_r1 11 rfl (gi_t pz_X5_neverWrong_X5_neverWrong_r1 17 rfl (gi_t pz_X5_neverWrong_X5_neverWrong_r1 18 rfl (gi_t pz_X5_neverWrong_X5_neverWrong_r1 19 rfl (gi_t pz_X5_neverWrong_X5_neverWrong_r1 20 rfl (gi_t pz_X5_neverWrong_X5_neverWrong_r1 21 rfl (gi_t pz_X5_neverWrong_X5_neverWrong_r2 3 rfl (gi_t pz_X5_neverWrong_X5_neverWrong_r2 4 rfl (gi_t pz_X5_neverWrong_X5_neverWrong_r2 5 rfl (gi_t pz_X5_neverWrong_X5_neverWrong_r2 6 rfl (gi_t pz_X5_neverWrong_X5_neverWrong_r1 22 rfl (gi_t pz_X5_neverWrong_X5_neverWrong_r1 23 rfl gi_n)))))))))))))))) pz_X5_neverWrong_X30)) (by decide +kernel)
set_option maxRecDepth 20000 in
theorem gX5_neverWrong_X3_hasWayOutside_n90 : GoodIn wsX5_neverWrong (wsX3_hasWayOutside) := ggX5_neverWrong_X3_hasWayOutside
theorem dX5_neverWrong_0 : decode cX5_neverWrong 0 = .ok (.aload_n 0, 1) := by decide +kernel
theorem dX5_neverWrong_1 : decode cX5_neverWrong 1 = .ok (.getfield 27, 3) := by decide +kernel
theorem dX5_neverWrong_4 : decode cX5_neverWrong 4 = .ok (.iconst 1, 1) := by decide +kernel
theorem dX5_neverWrong_5 : decode cX5_neverWrong 5 = .ok (.if_icmp .ne 13, 3) := by decide +kernel
theorem dX5_neverWrong_8 : decode cX5_neverWrong 8 = .ok (.aload_n 0, 1) := by decide +kernel
theorem dX5_neverWrong_9 : decode cX5_neverWrong 9 = .ok (.getfield 12, 3) := by decide +kernel
theorem dX5_neverWrong_12 : decode cX5_neverWrong 12 = .ok (.iload_n 1, 1) := by decide +kernel
theorem dX5_neverWrong_13 : decode cX5_neverWrong 13 = .ok (.iload_n 2, 1) := by decide +kernel
theorem dX5_neverWrong_14 : decode cX5_neverWrong 14 = .ok (.invokevirtual 87, 3) := by decide +kernel
theorem dX5_neverWrong_17 : decode cX5_neverWrong 17 = .ok (.ireturn, 1) := by decide +kernel
theorem dX5_neverWrong_18 : decode cX5_neverWrong 18 = .ok (.aload_n 0, 1) := by decide +kernel
theorem dX5_neverWrong_19 : decode cX5_neverWrong 19 = .ok (.getfield 24, 3) := by decide +kernel
theorem dX5_neverWrong_22 : decode cX5_neverWrong 22 = .ok (.iload_n 1, 1) := by decide +kernel
theorem dX5_neverWrong_23 : decode cX5_neverWrong 23 = .ok (.aaload, 1) := by decide +kernel
theorem dX5_neverWrong_24 : decode cX5_neverWrong 24 = .ok (.iload_n 3, 1) := by decide +kernel
theorem dX5_neverWrong_25 : decode cX5_neverWrong 25 = .ok (.iaload, 1) := by decide +kernel
theorem dX5_neverWrong_26 : decode cX5_neverWrong 26 = .ok (.istore 4, 2) := by decide +kernel
theorem dX5_neverWrong_28 : decode cX5_neverWrong 28 = .ok (.iload_n 3, 1) := by decide +kernel
theorem dX5_neverWrong_29 : decode cX5_neverWrong 29 = .ok (.istore 5, 2) := by decide +kernel
theorem dX5_neverWrong_31 : decode cX5_neverWrong 31 = .ok (.iload 5, 2) := by decide +kernel
theorem dX5_neverWrong_33 : decode cX5_neverWrong 33 = .ok (.aload_n 0, 1) := by decide +kernel
theorem dX5_neverWrong_34 : decode cX5_neverWrong 34 = .ok (.getfield 34, 3) := by decide +kernel
theorem dX5_neverWrong_37 : decode cX5_neverWrong 37 = .ok (.if_icmp .ge 45, 3) := by decide +kernel
theorem dX5_neverWrong_40 : decode cX5_neverWrong 40 = .ok (.iload 4, 2) := by decide +kernel
theorem dX5_neverWrong_42 : decode cX5_neverWrong 42 = .ok (.iconst 1, 1) := by decide +kernel
theorem dX5_neverWrong_43 : decode cX5_neverWrong 43 = .ok (.if_icmp .ne 39, 3) := by decide +kernel
theorem dX5_neverWrong_46 : decode cX5_neverWrong 46 = .ok (.aload_n 0, 1) := by decide +kernel
theorem dX5_neverWrong_47 : decode cX5_neverWrong 47 = .ok (.getfield 24, 3) := by decide +kernel
theorem dX5_neverWrong_50 : decode cX5_neverWrong 50 = .ok (.iload_n 1, 1) := by decide +kernel
theorem dX5_neverWrong_51 : decode cX5_neverWrong 51 = .ok (.aaload, 1) := by decide +kernel
theorem dX5_neverWrong_52 : decode cX5_neverWrong 52 = .ok (.iload 5, 2) := by decide +kernel
theorem dX5_neverWrong_54 : decode cX5_neverWrong 54 = .ok (.iaload, 1) := by decide +kernel
theorem dX5_neverWrong_55 : decode cX5_neverWrong 55 = .ok (.iconst 1, 1) := by decide +kernel
theorem dX5_neverWrong_56 : decode cX5_neverWrong 56 = .ok (.if_icmp .ne 20, 3) := by decide +kernel
theorem dX5_neverWrong_59 : decode cX5_neverWrong 59 = .ok (.aload_n 0, 1) := by decide +kernel
theorem dX5_neverWrong_60 : decode cX5_neverWrong 60 = .ok (.getfield 12, 3) := by decide +kernel
theorem dX5_neverWrong_63 : decode cX5_neverWrong 63 = .ok (.iload_n 1, 1) := by decide +kernel
theorem dX5_neverWrong_64 : decode cX5_neverWrong 64 = .ok (.iload 5, 2) := by decide +kernel
theorem dX5_neverWrong_66 : decode cX5_neverWrong 66 = .ok (.iload_n 2, 1) := by decide +kernel
theorem dX5_neverWrong_67 : decode cX5_neverWrong 67 = .ok (.invokevirtual 90, 3) := by decide +kernel
theorem dX5_neverWrong_70 : decode cX5_neverWrong 70 = .ok (.ifCond .eq 6, 3) := by decide +kernel
theorem dX5_neverWrong_73 : decode cX5_neverWrong 73 = .ok (.iload 5, 2) := by decide +kernel
theorem dX5_neverWrong_75 : decode cX5_neverWrong 75 = .ok (.ireturn, 1) := by decide +kernel
theorem dX5_neverWrong_76 : decode cX5_neverWrong 76 = .ok (.iinc 5 1, 3) := by decide +kernel
theorem dX5_neverWrong_79 : decode cX5_neverWrong 79 = .ok (.goto (-48), 3) := by decide +kernel
theorem dX5_neverWrong_82 : decode cX5_neverWrong 82 = .ok (.iload 4, 2) := by decide +kernel
theorem dX5_neverWrong_84 : decode cX5_neverWrong 84 = .ok (.ifCond .ne 7, 3) := by decide +kernel
theorem dX5_neverWrong_87 : decode cX5_neverWrong 87 = .ok (.iload_n 3, 1) := by decide +kernel
theorem dX5_neverWrong_88 : decode cX5_neverWrong 88 = .ok (.goto 4, 3) := by decide +kernel
theorem dX5_neverWrong_91 : decode cX5_neverWrong 91 = .ok (.iconst (-1), 1) := by decide +kernel
theorem dX5_neverWrong_92 : decode cX5_neverWrong 92 = .ok (.ireturn, 1) := by decide +kernel
