theorem pz_X12_fill_X120 : ∀ x ∈ wsX120, x ∈ wsX12_fill := fun _ h => (List.mem_cons_of_mem _ (List.mem_append_right _ h))
theorem pz_X12_isGreat_X120 : ∀ x ∈ wsX120, x ∈ wsX12_isGreat := fun _ h => (List.mem_cons_of_mem _ (List.mem_append_right _ h))
theorem pz_X12_setCliques_X120 : ∀ x ∈ wsX120, x ∈ wsX12_setCliques := fun _ h => (List.mem_cons_of_mem _ (List.mem_append_right _ h))
theorem pz_X12_clique_X12_clique_r1 : ∀ x ∈ wsX12_clique_r1, x ∈ wsX12_clique := fun _ h => (List.mem_cons_of_mem _ (List.mem_append_left _ (List.mem_append_left _ h)))
theorem pz_X12_clique_X120 : ∀ x ∈ wsX120, x ∈ wsX12_clique := fun _ h => (List.mem_cons_of_mem _ (List.mem_append_right _ h))
theorem pz_X12_clique_X12_clique_r2 : ∀ x ∈ wsX12_clique_r2, x ∈ wsX12_clique := fun _ h => (List.mem_cons_of_mem _ (List.mem_append_left _ (List.mem_append_right _ h)))
theorem pz_X12_greatest_X12_greatest_r1 : ∀ x ∈ wsX12_greatest_r1, x ∈ wsX12_greatest := fun _ h => (List.mem_cons_of_mem _ (List.mem_append_left _ (List.mem_append_left _ h)))
theorem pz_X12_greatest_X120 : ∀ x ∈ wsX120, x ∈ wsX12_greatest := fun _ h => (List.mem_cons_of_mem _ (List.mem_append_right _ h))
theorem pz_X12_greatest_X12_greatest_r2 : ∀ x ∈ wsX12_greatest_r2, x ∈ wsX12_greatest := fun _ h => (List.mem_cons_of_mem _ (List.mem_append_left _ (List.mem_append_right _ h)))
theorem pz_X12_sort_X120 : ∀ x ∈ wsX120, x ∈ wsX12_sort := fun _ h => (List.mem_cons_of_mem _ (List.mem_append_right _ h))
theorem pz_X12_isColoured_X120 : ∀ x ∈ wsX120, x ∈ wsX12_isColoured := fun _ h => (List.mem_cons_of_mem _ (List.mem_append_right _ h))
theorem pz_X12_colour_X120 : ∀ x ∈ wsX120, x ∈ wsX12_colour := fun _ h => (List.mem_cons_of_mem _ (List.mem_append_right _ h))
theorem pz_X12_apart_X120 : ∀ x ∈ wsX120, x ∈ wsX12_apart := fun _ h => (List.mem_cons_of_mem _ (List.mem_append_right _ h))
theorem pz_X12_tree_X12_tree_r2 : ∀ x ∈ wsX12_tree_r2, x ∈ wsX12_tree := fun _ h => (List.mem_cons_of_mem _ (List.mem_append_left _ (List.mem_append_right _ h)))
theorem pz_X12_tree_X12_tree_r1 : ∀ x ∈ wsX12_tree_r1, x ∈ wsX12_tree := fun _ h => (List.mem_cons_of_mem _ (List.mem_append_left _ (List.mem_append_left _ h)))
theorem pz_X12_tree_X120 : ∀ x ∈ wsX120, x ∈ wsX12_tree := fun _ h => (List.mem_cons_of_mem _ (List.mem_append_right _ h))
theorem pz_X12_parts_X120 : ∀ x ∈ wsX120, x ∈ wsX12_parts := fun _ h => (List.mem_cons_of_mem _ (List.mem_append_right _ h))
theorem pz_X12_isPart_X120 : ∀ x ∈ wsX120, x ∈ wsX12_isPart := fun _ h => (List.mem_cons_of_mem _ (List.mem_append_right _ h))
theorem pz_X12_part_X12_part_r1 : ∀ x ∈ wsX12_part_r1, x ∈ wsX12_part := fun _ h => (List.mem_cons_of_mem _ (List.mem_append_left _ (List.mem_append_left _ h)))
theorem pz_X12_part_X120 : ∀ x ∈ wsX120, x ∈ wsX12_part := fun _ h => (List.mem_cons_of_mem _ (List.mem_append_right _ h))
theorem pz_X12_part_X12_part_r2 : ∀ x ∈ wsX12_part_r2, x ∈ wsX12_part := fun _ h => (List.mem_cons_of_mem _ (List.mem_append_left _ (List.mem_append_right _ h)))
theorem pz_X12_setLine_X120 : ∀ x ∈ wsX120, x ∈ wsX12_setLine := fun _ h => (List.mem_cons_of_mem _ (List.mem_append_right _ h))
theorem dX12_order_0 : decode cX12_order 0 = .ok (.iload_n 1, 1) := by decide +kernel
theorem dX12_order_1 : decode cX12_order 1 = .ok (.iconst 0, 1) := by decide +kernel
theorem dX12_order_2 : decode cX12_order 2 = .ok (.aload_n 0, 1) := by decide +kernel
theorem dX12_order_3 : decode cX12_order 3 = .ok (.getfield 28, 3) := by decide +kernel
theorem dX12_order_6 : decode cX12_order 6 = .ok (.iconst 1, 1) := by decide +kernel
theorem dX12_order_7 : decode cX12_order 7 = .ok (.isub, 1) := by decide +kernel
theorem dX12_order_8 : decode cX12_order 8 = .ok (.invokestatic 76, 3) := by decide +kernel
theorem dX12_order_11 : decode cX12_order 11 = .ok (.ifCond .eq 12, 3) := by decide +kernel
theorem dX12_order_14 : decode cX12_order 14 = .ok (.aload_n 0, 1) := by decide +kernel
theorem dX12_order_15 : decode cX12_order 15 = .ok (.getfield 25, 3) := by decide +kernel
theorem dX12_order_18 : decode cX12_order 18 = .ok (.iload_n 1, 1) := by decide +kernel
theorem dX12_order_19 : decode cX12_order 19 = .ok (.iaload, 1) := by decide +kernel
theorem dX12_order_20 : decode cX12_order 20 = .ok (.goto 5, 3) := by decide +kernel
theorem dX12_order_23 : decode cX12_order 23 = .ok (.bipush (-9), 2) := by decide +kernel
theorem dX12_order_25 : decode cX12_order 25 = .ok (.ireturn, 1) := by decide +kernel
set_option maxRecDepth 20000 in
theorem ggX12_about_X12_in : GoodIn wsX12_about wsX12_in := goodIn_sub (gi_c 7 rfl gi_n) (by decide +kernel)
set_option maxRecDepth 20000 in
theorem gX12_about_X12_in : GoodIn wsX12_about (va_wsS RX12 76 yX12_in wsX12_in) := goodIn_app (goodIn_of _ (by decide +kernel)) ggX12_about_X12_in
theorem dX12_about_0 : decode cX12_about 0 = .ok (.iload_n 1, 1) := by decide +kernel
theorem dX12_about_1 : decode cX12_about 1 = .ok (.iconst 0, 1) := by decide +kernel
theorem dX12_about_2 : decode cX12_about 2 = .ok (.iconst 2, 1) := by decide +kernel
theorem dX12_about_3 : decode cX12_about 3 = .ok (.invokestatic 76, 3) := by decide +kernel
theorem dX12_about_6 : decode cX12_about 6 = .ok (.ifCond .ne 5, 3) := by decide +kernel
theorem dX12_about_9 : decode cX12_about 9 = .ok (.iconst (-1), 1) := by decide +kernel
theorem dX12_about_10 : decode cX12_about 10 = .ok (.ireturn, 1) := by decide +kernel
theorem dX12_about_11 : decode cX12_about 11 = .ok (.aload_n 0, 1) := by decide +kernel
theorem dX12_about_12 : decode cX12_about 12 = .ok (.getfield 28, 3) := by decide +kernel
theorem dX12_about_15 : decode cX12_about 15 = .ok (.ifCond .ge 6, 3) := by decide +kernel
theorem dX12_about_18 : decode cX12_about 18 = .ok (.bipush (-9), 2) := by decide +kernel
theorem dX12_about_20 : decode cX12_about 20 = .ok (.ireturn, 1) := by decide +kernel
theorem dX12_about_21 : decode cX12_about 21 = .ok (.iload_n 1, 1) := by decide +kernel
theorem dX12_about_22 : decode cX12_about 22 = .ok (.ifCond .ne 10, 3) := by decide +kernel
theorem dX12_about_25 : decode cX12_about 25 = .ok (.aload_n 0, 1) := by decide +kernel
theorem dX12_about_26 : decode cX12_about 26 = .ok (.getfield 134, 3) := by decide +kernel
theorem dX12_about_29 : decode cX12_about 29 = .ok (.goto 27, 3) := by decide +kernel
theorem dX12_about_32 : decode cX12_about 32 = .ok (.iload_n 1, 1) := by decide +kernel
theorem dX12_about_33 : decode cX12_about 33 = .ok (.iconst 1, 1) := by decide +kernel
theorem dX12_about_34 : decode cX12_about 34 = .ok (.if_icmp .ne 10, 3) := by decide +kernel
theorem dX12_about_37 : decode cX12_about 37 = .ok (.aload_n 0, 1) := by decide +kernel
theorem dX12_about_38 : decode cX12_about 38 = .ok (.getfield 137, 3) := by decide +kernel
theorem dX12_about_41 : decode cX12_about 41 = .ok (.goto 15, 3) := by decide +kernel
theorem dX12_about_44 : decode cX12_about 44 = .ok (.aload_n 0, 1) := by decide +kernel
theorem dX12_about_45 : decode cX12_about 45 = .ok (.getfield 134, 3) := by decide +kernel
theorem dX12_about_48 : decode cX12_about 48 = .ok (.ifCond .ne 7, 3) := by decide +kernel
theorem dX12_about_51 : decode cX12_about 51 = .ok (.iconst 1, 1) := by decide +kernel
theorem dX12_about_52 : decode cX12_about 52 = .ok (.goto 4, 3) := by decide +kernel
theorem dX12_about_55 : decode cX12_about 55 = .ok (.iconst 0, 1) := by decide +kernel
theorem dX12_about_56 : decode cX12_about 56 = .ok (.ireturn, 1) := by decide +kernel
set_option maxRecDepth 20000 in
theorem ggX12_fill_X12_changed : GoodIn wsX12_fill wsX12_changed := goodIn_sub (gi_c 10 rfl (gi_a (gi_c 1 rfl gi_n) pz_X12_fill_X120)) (by decide +kernel)
set_option maxRecDepth 20000 in
theorem gX12_fill_X12_changed : GoodIn wsX12_fill (wsV RX12 83 RX12 yX12_changed wsX12_changed) := goodIn_app (goodIn_of _ (by decide +kernel)) ggX12_fill_X12_changed
theorem dX12_fill_0 : decode cX12_fill 0 = .ok (.aload_n 0, 1) := by decide +kernel
theorem dX12_fill_1 : decode cX12_fill 1 = .ok (.getfield 28, 3) := by decide +kernel
theorem dX12_fill_4 : decode cX12_fill 4 = .ok (.ifCond .ge 6, 3) := by decide +kernel
theorem dX12_fill_7 : decode cX12_fill 7 = .ok (.bipush (-9), 2) := by decide +kernel
theorem dX12_fill_9 : decode cX12_fill 9 = .ok (.ireturn, 1) := by decide +kernel
theorem dX12_fill_10 : decode cX12_fill 10 = .ok (.iconst 0, 1) := by decide +kernel
theorem dX12_fill_11 : decode cX12_fill 11 = .ok (.istore_n 1, 1) := by decide +kernel
theorem dX12_fill_12 : decode cX12_fill 12 = .ok (.iload_n 1, 1) := by decide +kernel
theorem dX12_fill_13 : decode cX12_fill 13 = .ok (.aload_n 0, 1) := by decide +kernel
theorem dX12_fill_14 : decode cX12_fill 14 = .ok (.getfield 73, 3) := by decide +kernel
theorem dX12_fill_17 : decode cX12_fill 17 = .ok (.if_icmp .ge 24, 3) := by decide +kernel
theorem dX12_fill_20 : decode cX12_fill 20 = .ok (.aload_n 0, 1) := by decide +kernel
theorem dX12_fill_21 : decode cX12_fill 21 = .ok (.getfield 13, 3) := by decide +kernel
theorem dX12_fill_24 : decode cX12_fill 24 = .ok (.iload_n 1, 1) := by decide +kernel
theorem dX12_fill_25 : decode cX12_fill 25 = .ok (.dup2, 1) := by decide +kernel
theorem dX12_fill_26 : decode cX12_fill 26 = .ok (.iaload, 1) := by decide +kernel
theorem dX12_fill_27 : decode cX12_fill 27 = .ok (.aload_n 0, 1) := by decide +kernel
theorem dX12_fill_28 : decode cX12_fill 28 = .ok (.getfield 35, 3) := by decide +kernel
theorem dX12_fill_31 : decode cX12_fill 31 = .ok (.iload_n 1, 1) := by decide +kernel
theorem dX12_fill_32 : decode cX12_fill 32 = .ok (.iaload, 1) := by decide +kernel
theorem dX12_fill_33 : decode cX12_fill 33 = .ok (.ior, 1) := by decide +kernel
theorem dX12_fill_34 : decode cX12_fill 34 = .ok (.iastore, 1) := by decide +kernel
theorem dX12_fill_35 : decode cX12_fill 35 = .ok (.iinc 1 1, 3) := by decide +kernel
theorem dX12_fill_38 : decode cX12_fill 38 = .ok (.goto (-26), 3) := by decide +kernel
theorem dX12_fill_41 : decode cX12_fill 41 = .ok (.aload_n 0, 1) := by decide +kernel
theorem dX12_fill_42 : decode cX12_fill 42 = .ok (.getfield 134, 3) := by decide +kernel
theorem dX12_fill_45 : decode cX12_fill 45 = .ok (.istore_n 1, 1) := by decide +kernel
theorem dX12_fill_46 : decode cX12_fill 46 = .ok (.aload_n 0, 1) := by decide +kernel
theorem dX12_fill_47 : decode cX12_fill 47 = .ok (.invokevirtual 83, 3) := by decide +kernel
theorem dX12_fill_50 : decode cX12_fill 50 = .ok (.iload_n 1, 1) := by decide +kernel
theorem dX12_fill_51 : decode cX12_fill 51 = .ok (.ireturn, 1) := by decide +kernel
set_option maxRecDepth 20000 in
theorem ggX12_isGreat_X12_isClique : GoodIn wsX12_isGreat wsX12_isClique := goodIn_sub (gi_c 7 rfl (gi_a (gi_c 1 rfl (gi_c 2 rfl (gi_c 8 rfl (gi_c 9 rfl (gi_c 6 rfl (gi_c 10 rfl gi_n)))))) pz_X12_isGreat_X120)) (by decide +kernel)
set_option maxRecDepth 20000 in
theorem gX12_isGreat_X12_isClique : GoodIn wsX12_isGreat (wsV RX12 98 RX12 yX12_isClique wsX12_isClique) := goodIn_app (goodIn_of _ (by decide +kernel)) ggX12_isGreat_X12_isClique
set_option maxRecDepth 20000 in
theorem ggX12_isGreat_X12_has : GoodIn wsX12_isGreat wsX12_has := goodIn_sub (gi_c 10 rfl gi_n) (by decide +kernel)
set_option maxRecDepth 20000 in
theorem gX12_isGreat_X12_has : GoodIn wsX12_isGreat (va_wsS RX12 90 yX12_has wsX12_has) := goodIn_app (goodIn_of _ (by decide +kernel)) ggX12_isGreat_X12_has
theorem dX12_isGreat_0 : decode cX12_isGreat 0 = .ok (.iload_n 1, 1) := by decide +kernel
theorem dX12_isGreat_1 : decode cX12_isGreat 1 = .ok (.ifCond .eq 15, 3) := by decide +kernel
theorem dX12_isGreat_4 : decode cX12_isGreat 4 = .ok (.aload_n 0, 1) := by decide +kernel
theorem dX12_isGreat_5 : decode cX12_isGreat 5 = .ok (.iload_n 1, 1) := by decide +kernel
theorem dX12_isGreat_6 : decode cX12_isGreat 6 = .ok (.invokevirtual 98, 3) := by decide +kernel
theorem dX12_isGreat_9 : decode cX12_isGreat 9 = .ok (.ifCond .eq 7, 3) := by decide +kernel
theorem dX12_isGreat_12 : decode cX12_isGreat 12 = .ok (.iconst 1, 1) := by decide +kernel
theorem dX12_isGreat_13 : decode cX12_isGreat 13 = .ok (.goto 4, 3) := by decide +kernel
theorem dX12_isGreat_16 : decode cX12_isGreat 16 = .ok (.iconst 0, 1) := by decide +kernel
theorem dX12_isGreat_17 : decode cX12_isGreat 17 = .ok (.istore_n 2, 1) := by decide +kernel
theorem dX12_isGreat_18 : decode cX12_isGreat 18 = .ok (.iconst 0, 1) := by decide +kernel
theorem dX12_isGreat_19 : decode cX12_isGreat 19 = .ok (.istore_n 3, 1) := by decide +kernel
theorem dX12_isGreat_20 : decode cX12_isGreat 20 = .ok (.iload_n 3, 1) := by decide +kernel
theorem dX12_isGreat_21 : decode cX12_isGreat 21 = .ok (.aload_n 0, 1) := by decide +kernel
theorem dX12_isGreat_22 : decode cX12_isGreat 22 = .ok (.getfield 73, 3) := by decide +kernel
theorem dX12_isGreat_25 : decode cX12_isGreat 25 = .ok (.if_icmp .ge 40, 3) := by decide +kernel
theorem dX12_isGreat_28 : decode cX12_isGreat 28 = .ok (.iload_n 2, 1) := by decide +kernel
theorem dX12_isGreat_29 : decode cX12_isGreat 29 = .ok (.ifCond .eq 28, 3) := by decide +kernel
theorem dX12_isGreat_32 : decode cX12_isGreat 32 = .ok (.iload_n 1, 1) := by decide +kernel
theorem dX12_isGreat_33 : decode cX12_isGreat 33 = .ok (.iload_n 3, 1) := by decide +kernel
theorem dX12_isGreat_34 : decode cX12_isGreat 34 = .ok (.invokestatic 90, 3) := by decide +kernel
theorem dX12_isGreat_37 : decode cX12_isGreat 37 = .ok (.ifCond .ne 16, 3) := by decide +kernel
theorem dX12_isGreat_40 : decode cX12_isGreat 40 = .ok (.iload_n 1, 1) := by decide +kernel
theorem dX12_isGreat_41 : decode cX12_isGreat 41 = .ok (.aload_n 0, 1) := by decide +kernel
theorem dX12_isGreat_42 : decode cX12_isGreat 42 = .ok (.getfield 13, 3) := by decide +kernel
theorem dX12_isGreat_45 : decode cX12_isGreat 45 = .ok (.iload_n 3, 1) := by decide +kernel
theorem dX12_isGreat_46 : decode cX12_isGreat 46 = .ok (.iaload, 1) := by decide +kernel
theorem dX12_isGreat_47 : decode cX12_isGreat 47 = .ok (.iconst (-1), 1) := by decide +kernel
theorem dX12_isGreat_48 : decode cX12_isGreat 48 = .ok (.ixor, 1) := by decide +kernel
theorem dX12_isGreat_49 : decode cX12_isGreat 49 = .ok (.iand, 1) := by decide +kernel
theorem dX12_isGreat_50 : decode cX12_isGreat 50 = .ok (.ifCond .eq 7, 3) := by decide +kernel
theorem dX12_isGreat_53 : decode cX12_isGreat 53 = .ok (.iconst 1, 1) := by decide +kernel
theorem dX12_isGreat_54 : decode cX12_isGreat 54 = .ok (.goto 4, 3) := by decide +kernel
theorem dX12_isGreat_57 : decode cX12_isGreat 57 = .ok (.iconst 0, 1) := by decide +kernel
theorem dX12_isGreat_58 : decode cX12_isGreat 58 = .ok (.istore_n 2, 1) := by decide +kernel
theorem dX12_isGreat_59 : decode cX12_isGreat 59 = .ok (.iinc 3 1, 3) := by decide +kernel
theorem dX12_isGreat_62 : decode cX12_isGreat 62 = .ok (.goto (-42), 3) := by decide +kernel
theorem dX12_isGreat_65 : decode cX12_isGreat 65 = .ok (.iload_n 2, 1) := by decide +kernel
theorem dX12_isGreat_66 : decode cX12_isGreat 66 = .ok (.ireturn, 1) := by decide +kernel
set_option maxRecDepth 20000 in
theorem ggX12_setCliques_X12_all : GoodIn wsX12_setCliques wsX12_all := goodIn_sub (gi_c 7 rfl (gi_a (gi_c 8 rfl gi_n) pz_X12_setCliques_X120)) (by decide +kernel)
set_option maxRecDepth 20000 in
theorem gX12_setCliques_X12_all : GoodIn wsX12_setCliques (wsV RX12 101 RX12 yX12_all wsX12_all) := goodIn_app (goodIn_of _ (by decide +kernel)) ggX12_setCliques_X12_all
set_option maxRecDepth 20000 in
theorem ggX12_setCliques_X12_isGreat : GoodIn wsX12_setCliques wsX12_isGreat := goodIn_sub (gi_c 12 rfl (gi_a (gi_c 8 rfl (gi_c 13 rfl (gi_c 14 rfl (gi_c 15 rfl (gi_c 16 rfl (gi_c 6 rfl (gi_c 17 rfl (gi_c 18 rfl (gi_c 19 rfl (gi_c 20 rfl gi_n)))))))))) pz_X12_setCliques_X120)) (by decide +kernel)
set_option maxRecDepth 20000 in
theorem gX12_setCliques_X12_isGreat : GoodIn wsX12_setCliques (wsV RX12 167 RX12 yX12_isGreat wsX12_isGreat) := goodIn_app (goodIn_of _ (by decide +kernel)) ggX12_setCliques_X12_isGreat
theorem dX12_setCliques_0 : decode cX12_setCliques 0 = .ok (.aload_n 0, 1) := by decide +kernel
theorem dX12_setCliques_1 : decode cX12_setCliques 1 = .ok (.iconst 0, 1) := by decide +kernel
theorem dX12_setCliques_2 : decode cX12_setCliques 2 = .ok (.putfield 164, 3) := by decide +kernel
theorem dX12_setCliques_5 : decode cX12_setCliques 5 = .ok (.iconst 1, 1) := by decide +kernel
theorem dX12_setCliques_6 : decode cX12_setCliques 6 = .ok (.istore_n 1, 1) := by decide +kernel
theorem dX12_setCliques_7 : decode cX12_setCliques 7 = .ok (.iload_n 1, 1) := by decide +kernel
theorem dX12_setCliques_8 : decode cX12_setCliques 8 = .ok (.aload_n 0, 1) := by decide +kernel
theorem dX12_setCliques_9 : decode cX12_setCliques 9 = .ok (.invokevirtual 101, 3) := by decide +kernel
theorem dX12_setCliques_12 : decode cX12_setCliques 12 = .ok (.if_icmp .gt 37, 3) := by decide +kernel
theorem dX12_setCliques_15 : decode cX12_setCliques 15 = .ok (.aload_n 0, 1) := by decide +kernel
theorem dX12_setCliques_16 : decode cX12_setCliques 16 = .ok (.iload_n 1, 1) := by decide +kernel
theorem dX12_setCliques_17 : decode cX12_setCliques 17 = .ok (.invokevirtual 167, 3) := by decide +kernel
theorem dX12_setCliques_20 : decode cX12_setCliques 20 = .ok (.ifCond .eq 23, 3) := by decide +kernel
theorem dX12_setCliques_23 : decode cX12_setCliques 23 = .ok (.aload_n 0, 1) := by decide +kernel
theorem dX12_setCliques_24 : decode cX12_setCliques 24 = .ok (.getfield 45, 3) := by decide +kernel
theorem dX12_setCliques_27 : decode cX12_setCliques 27 = .ok (.aload_n 0, 1) := by decide +kernel
theorem dX12_setCliques_28 : decode cX12_setCliques 28 = .ok (.getfield 164, 3) := by decide +kernel
theorem dX12_setCliques_31 : decode cX12_setCliques 31 = .ok (.iload_n 1, 1) := by decide +kernel
theorem dX12_setCliques_32 : decode cX12_setCliques 32 = .ok (.iastore, 1) := by decide +kernel
theorem dX12_setCliques_33 : decode cX12_setCliques 33 = .ok (.aload_n 0, 1) := by decide +kernel
theorem dX12_setCliques_34 : decode cX12_setCliques 34 = .ok (.dup, 1) := by decide +kernel
theorem dX12_setCliques_35 : decode cX12_setCliques 35 = .ok (.getfield 164, 3) := by decide +kernel
theorem dX12_setCliques_38 : decode cX12_setCliques 38 = .ok (.iconst 1, 1) := by decide +kernel
theorem dX12_setCliques_39 : decode cX12_setCliques 39 = .ok (.iadd, 1) := by decide +kernel
theorem dX12_setCliques_40 : decode cX12_setCliques 40 = .ok (.putfield 164, 3) := by decide +kernel
theorem dX12_setCliques_43 : decode cX12_setCliques 43 = .ok (.iinc 1 1, 3) := by decide +kernel
theorem dX12_setCliques_46 : decode cX12_setCliques 46 = .ok (.goto (-39), 3) := by decide +kernel
theorem dX12_setCliques_49 : decode cX12_setCliques 49 = .ok (.return_, 1) := by decide +kernel
set_option maxRecDepth 20000 in
theorem ggX12_clique_X12_setCliques : GoodIn wsX12_clique wsX12_setCliques := goodIn_sub (gi_t pz_X12_clique_X12_clique_r1 6 rfl (gi_a (gi_t pz_X12_clique_X12_clique_r1 0 rfl (gi_t pz_X12_clique_X12_clique_r1 1 rfl (gi_t pz_X12_clique_X12_clique_r1 7 rfl (gi_t pz_X12_clique_X12_clique_r1 8 rfl (gi_t pz_X12_clique_X12_clique_r1 9 rfl (gi_t pz_X12_clique_X12_clique_r1 5 rfl (gi_t pz_X12_clique_X12_clique_r1 10 rfl (gi_t pz_X12_clique_X12_clique_r1 11 rfl (gi_t pz_X12_clique_X12_clique_r1 12 rfl (gi_t pz_X12_clique_X12_clique_r1 13 rfl (gi_t pz_X12_clique_X12_clique_r1 14 rfl (gi_t pz_X12_clique_X12_clique_r1 15 rfl (gi_t pz_X12_clique_X12_clique_r1 16 rfl (gi_t pz_X12_clique_X12_clique_r1 17 rfl (gi_t pz_X12_clique_X12_clique_r1 18 rfl (gi_t pz_X12_clique_X12_clique_r1 19 rfl (gi_t pz_X12_clique_X12_clique_r1 20 rfl (gi_t pz_X12_clique_X12_clique_r1 21 rfl (gi_t pz_X12_clique_X12_clique_r1 22 rfl (gi_t pz_X12_clique_X12_clique_r1 23 rfl gi_n)))))))))))))))))))) pz_X12_clique_X120)) (by decide +kernel)
set_option maxRecDepth 20000 in
theorem gX12_clique_X12_setCliques : GoodIn wsX12_clique (wsV RX12 170 RX12 yX12_setCliques wsX12_setCliques) := goodIn_app (goodIn_of _ (by decide +kernel)) ggX12_clique_X12_setCliques
set_option maxRecDepth 20000 in
theorem ggX12_clique_X12_in : GoodIn wsX12_clique wsX12_in := goodIn_sub (gi_t pz_X12_clique_X12_clique_r2 2 rfl gi_n) (by decide +kernel)
set_option maxRecDepth 20000 in
theorem gX12_clique_X12_in : GoodIn wsX12_clique (va_wsS RX12 76 yX12_in wsX12_in) := goodIn_app (goodIn_of _ (by decide +kernel)) ggX12_clique_X12_in
theorem dX12_clique_0 : decode cX12_clique 0 = .ok (.aload_n 0, 1) := by decide +kernel
theorem dX12_clique_1 : decode cX12_clique 1 = .ok (.invokevirtual 170, 3) := by decide +kernel
theorem dX12_clique_4 : decode cX12_clique 4 = .ok (.iload_n 1, 1) := by decide +kernel
theorem dX12_clique_5 : decode cX12_clique 5 = .ok (.iconst (-1), 1) := by decide +kernel
theorem dX12_clique_6 : decode cX12_clique 6 = .ok (.if_icmp .ne 10, 3) := by decide +kernel
theorem dX12_clique_9 : decode cX12_clique 9 = .ok (.aload_n 0, 1) := by decide +kernel
theorem dX12_clique_10 : decode cX12_clique 10 = .ok (.getfield 164, 3) := by decide +kernel
theorem dX12_clique_13 : decode cX12_clique 13 = .ok (.goto 28, 3) := by decide +kernel
theorem dX12_clique_16 : decode cX12_clique 16 = .ok (.iload_n 1, 1) := by decide +kernel
theorem dX12_clique_17 : decode cX12_clique 17 = .ok (.iconst 0, 1) := by decide +kernel
theorem dX12_clique_18 : decode cX12_clique 18 = .ok (.aload_n 0, 1) := by decide +kernel
theorem dX12_clique_19 : decode cX12_clique 19 = .ok (.getfield 164, 3) := by decide +kernel
theorem dX12_clique_22 : decode cX12_clique 22 = .ok (.iconst 1, 1) := by decide +kernel
theorem dX12_clique_23 : decode cX12_clique 23 = .ok (.isub, 1) := by decide +kernel
theorem dX12_clique_24 : decode cX12_clique 24 = .ok (.invokestatic 76, 3) := by decide +kernel
theorem dX12_clique_27 : decode cX12_clique 27 = .ok (.ifCond .eq 12, 3) := by decide +kernel
theorem dX12_clique_30 : decode cX12_clique 30 = .ok (.aload_n 0, 1) := by decide +kernel
theorem dX12_clique_31 : decode cX12_clique 31 = .ok (.getfield 45, 3) := by decide +kernel
theorem dX12_clique_34 : decode cX12_clique 34 = .ok (.iload_n 1, 1) := by decide +kernel
theorem dX12_clique_35 : decode cX12_clique 35 = .ok (.iaload, 1) := by decide +kernel
theorem dX12_clique_36 : decode cX12_clique 36 = .ok (.goto 5, 3) := by decide +kernel
theorem dX12_clique_39 : decode cX12_clique 39 = .ok (.bipush (-9), 2) := by decide +kernel
theorem dX12_clique_41 : decode cX12_clique 41 = .ok (.ireturn, 1) := by decide +kernel
set_option maxRecDepth 20000 in
theorem ggX12_greatest_X12_setCliques : GoodIn wsX12_greatest wsX12_setCliques := goodIn_sub (gi_t pz_X12_greatest_X12_greatest_r1 6 rfl (gi_a (gi_t pz_X12_greatest_X12_greatest_r1 0 rfl (gi_t pz_X12_greatest_X12_greatest_r1 1 rfl (gi_t pz_X12_greatest_X12_greatest_r1 7 rfl (gi_t pz_X12_greatest_X12_greatest_r1 8 rfl (gi_t pz_X12_greatest_X12_greatest_r1 9 rfl (gi_t pz_X12_greatest_X12_greatest_r1 5 rfl (gi_t pz_X12_greatest_X12_greatest_r1 10 rfl (gi_t pz_X12_greatest_X12_greatest_r1 11 rfl (gi_t pz_X12_greatest_X12_greatest_r1 12 rfl (gi_t pz_X12_greatest_X12_greatest_r1 13 rfl (gi_t pz_X12_greatest_X12_greatest_r1 14 rfl (gi_t pz_X12_greatest_X12_greatest_r1 15 rfl (gi_t pz_X12_greatest_X12_greatest_r1 16 rfl (gi_t pz_X12_greatest_X12_greatest_r1 17 rfl (gi_t pz_X12_greatest_X12_greatest_r1 18 rfl (gi_t pz_X12_greatest_X12_greatest_r1 19 rfl (gi_t pz_X12_greatest_X12_greatest_r1 20 rfl (gi_t pz_X12_greatest_X12_greatest_r1 21 rfl (gi_t pz_X12_greatest_X12_greatest_r1 22 rfl (gi_t pz_X12_greatest_X12_greatest_r1 23 rfl gi_n)))))))))))))))))))) pz_X12_greatest_X120)) (by decide +kernel)
set_option maxRecDepth 20000 in
theorem gX12_greatest_X12_setCliques : GoodIn wsX12_greatest (wsV RX12 170 RX12 yX12_setCliques wsX12_setCliques) := goodIn_app (goodIn_of _ (by decide +kernel)) ggX12_greatest_X12_setCliques
set_option maxRecDepth 20000 in
theorem ggX12_greatest_X12_bits : GoodIn wsX12_greatest wsX12_bits := goodIn_sub (gi_t pz_X12_greatest_X12_greatest_r2 2 rfl gi_n) (by decide +kernel)
set_option maxRecDepth 20000 in
theorem gX12_greatest_X12_bits : GoodIn wsX12_greatest (va_wsS RX12 109 yX12_bits wsX12_bits) := goodIn_app (goodIn_of _ (by decide +kernel)) ggX12_greatest_X12_bits
theorem dX12_greatest_0 : decode cX12_greatest 0 = .ok (.aload_n 0, 1) := by decide +kernel
theorem dX12_greatest_1 : decode cX12_greatest 1 = .ok (.invokevirtual 170, 3) := by decide +kernel
theorem dX12_greatest_4 : decode cX12_greatest 4 = .ok (.iconst 0, 1) := by decide +kernel
theorem dX12_greatest_5 : decode cX12_greatest 5 = .ok (.istore_n 1, 1) := by decide +kernel
theorem dX12_greatest_6 : decode cX12_greatest 6 = .ok (.iconst 0, 1) := by decide +kernel
theorem dX12_greatest_7 : decode cX12_greatest 7 = .ok (.istore_n 2, 1) := by decide +kernel
theorem dX12_greatest_8 : decode cX12_greatest 8 = .ok (.iload_n 2, 1) := by decide +kernel
theorem dX12_greatest_9 : decode cX12_greatest 9 = .ok (.aload_n 0, 1) := by decide +kernel
theorem dX12_greatest_10 : decode cX12_greatest 10 = .ok (.getfield 164, 3) := by decide +kernel
theorem dX12_greatest_13 : decode cX12_greatest 13 = .ok (.if_icmp .ge 36, 3) := by decide +kernel
theorem dX12_greatest_16 : decode cX12_greatest 16 = .ok (.aload_n 0, 1) := by decide +kernel
theorem dX12_greatest_17 : decode cX12_greatest 17 = .ok (.getfield 45, 3) := by decide +kernel
theorem dX12_greatest_20 : decode cX12_greatest 20 = .ok (.iload_n 2, 1) := by decide +kernel
theorem dX12_greatest_21 : decode cX12_greatest 21 = .ok (.iaload, 1) := by decide +kernel
theorem dX12_greatest_22 : decode cX12_greatest 22 = .ok (.invokestatic 109, 3) := by decide +kernel
theorem dX12_greatest_25 : decode cX12_greatest 25 = .ok (.iload_n 1, 1) := by decide +kernel
theorem dX12_greatest_26 : decode cX12_greatest 26 = .ok (.if_icmp .le 15, 3) := by decide +kernel
theorem dX12_greatest_29 : decode cX12_greatest 29 = .ok (.aload_n 0, 1) := by decide +kernel
theorem dX12_greatest_30 : decode cX12_greatest 30 = .ok (.getfield 45, 3) := by decide +kernel
theorem dX12_greatest_33 : decode cX12_greatest 33 = .ok (.iload_n 2, 1) := by decide +kernel
theorem dX12_greatest_34 : decode cX12_greatest 34 = .ok (.iaload, 1) := by decide +kernel
theorem dX12_greatest_35 : decode cX12_greatest 35 = .ok (.invokestatic 109, 3) := by decide +kernel
theorem dX12_greatest_38 : decode cX12_greatest 38 = .ok (.goto 4, 3) := by decide +kernel
theorem dX12_greatest_41 : decode cX12_greatest 41 = .ok (.iload_n 1, 1) := by decide +kernel
theorem dX12_greatest_42 : decode cX12_greatest 42 = .ok (.istore_n 1, 1) := by decide +kernel
theorem dX12_greatest_43 : decode cX12_greatest 43 = .ok (.iinc 2 1, 3) := by decide +kernel
theorem dX12_greatest_46 : decode cX12_greatest 46 = .ok (.goto (-38), 3) := by decide +kernel
theorem dX12_greatest_49 : decode cX12_greatest 49 = .ok (.iload_n 1, 1) := by decide +kernel
theorem dX12_greatest_50 : decode cX12_greatest 50 = .ok (.ireturn, 1) := by decide +kernel
set_option maxRecDepth 20000 in
theorem ggX12_sort_X12_all : GoodIn wsX12_sort wsX12_all := goodIn_sub (gi_c 5 rfl (gi_a (gi_c 6 rfl gi_n) pz_X12_sort_X120)) (by decide +kernel)
set_option maxRecDepth 20000 in
theorem gX12_sort_X12_all : GoodIn wsX12_sort (wsV RX12 101 RX12 yX12_all wsX12_all) := goodIn_app (goodIn_of _ (by decide +kernel)) ggX12_sort_X12_all
set_option maxRecDepth 20000 in
theorem ggX12_sort_X12_bits : GoodIn wsX12_sort wsX12_bits := goodIn_sub (gi_c 9 rfl gi_n) (by decide +kernel)
set_option maxRecDepth 20000 in
theorem gX12_sort_X12_bits : GoodIn wsX12_sort (va_wsS RX12 109 yX12_bits wsX12_bits) := goodIn_app (goodIn_of _ (by decide +kernel)) ggX12_sort_X12_bits
set_option maxRecDepth 20000 in
theorem ggX12_sort_X12_isClique : GoodIn wsX12_sort wsX12_isClique := goodIn_sub (gi_c 13 rfl (gi_a (gi_c 6 rfl (gi_c 14 rfl (gi_c 15 rfl (gi_c 16 rfl (gi_c 4 rfl (gi_c 17 rfl gi_n)))))) pz_X12_sort_X120)) (by decide +kernel)
set_option maxRecDepth 20000 in
theorem gX12_sort_X12_isClique : GoodIn wsX12_sort (wsV RX12 98 RX12 yX12_isClique wsX12_isClique) := goodIn_app (goodIn_of _ (by decide +kernel)) ggX12_sort_X12_isClique
set_option maxRecDepth 20000 in
theorem ggX12_sort_X12_isApart : GoodIn wsX12_sort wsX12_isApart := goodIn_sub (gi_c 21 rfl (gi_a (gi_c 6 rfl (gi_c 14 rfl (gi_c 15 rfl (gi_c 16 rfl (gi_c 4 rfl (gi_c 17 rfl gi_n)))))) pz_X12_sort_X120)) (by decide +kernel)
set_option maxRecDepth 20000 in
theorem gX12_sort_X12_isApart : GoodIn wsX12_sort (wsV RX12 173 RX12 yX12_isApart wsX12_isApart) := goodIn_app (goodIn_of _ (by decide +kernel)) ggX12_sort_X12_isApart
theorem dX12_sort_0 : decode cX12_sort 0 = .ok (.iload_n 1, 1) := by decide +kernel
theorem dX12_sort_1 : decode cX12_sort 1 = .ok (.ifCond .le 14, 3) := by decide +kernel
theorem dX12_sort_4 : decode cX12_sort 4 = .ok (.iload_n 1, 1) := by decide +kernel
theorem dX12_sort_5 : decode cX12_sort 5 = .ok (.aload_n 0, 1) := by decide +kernel
theorem dX12_sort_6 : decode cX12_sort 6 = .ok (.invokevirtual 101, 3) := by decide +kernel
theorem dX12_sort_9 : decode cX12_sort 9 = .ok (.iconst (-1), 1) := by decide +kernel
theorem dX12_sort_10 : decode cX12_sort 10 = .ok (.ixor, 1) := by decide +kernel
theorem dX12_sort_11 : decode cX12_sort 11 = .ok (.iand, 1) := by decide +kernel
theorem dX12_sort_12 : decode cX12_sort 12 = .ok (.ifCond .eq 5, 3) := by decide +kernel
theorem dX12_sort_15 : decode cX12_sort 15 = .ok (.iconst (-1), 1) := by decide +kernel
theorem dX12_sort_16 : decode cX12_sort 16 = .ok (.ireturn, 1) := by decide +kernel
theorem dX12_sort_17 : decode cX12_sort 17 = .ok (.iload_n 1, 1) := by decide +kernel
theorem dX12_sort_18 : decode cX12_sort 18 = .ok (.invokestatic 109, 3) := by decide +kernel
theorem dX12_sort_21 : decode cX12_sort 21 = .ok (.iconst 1, 1) := by decide +kernel
theorem dX12_sort_22 : decode cX12_sort 22 = .ok (.if_icmp .ne 7, 3) := by decide +kernel
theorem dX12_sort_25 : decode cX12_sort 25 = .ok (.iconst 3, 1) := by decide +kernel
theorem dX12_sort_26 : decode cX12_sort 26 = .ok (.goto 28, 3) := by decide +kernel
theorem dX12_sort_29 : decode cX12_sort 29 = .ok (.aload_n 0, 1) := by decide +kernel
theorem dX12_sort_30 : decode cX12_sort 30 = .ok (.iload_n 1, 1) := by decide +kernel
theorem dX12_sort_31 : decode cX12_sort 31 = .ok (.invokevirtual 98, 3) := by decide +kernel
theorem dX12_sort_34 : decode cX12_sort 34 = .ok (.ifCond .eq 7, 3) := by decide +kernel
theorem dX12_sort_37 : decode cX12_sort 37 = .ok (.iconst 1, 1) := by decide +kernel
theorem dX12_sort_38 : decode cX12_sort 38 = .ok (.goto 16, 3) := by decide +kernel
theorem dX12_sort_41 : decode cX12_sort 41 = .ok (.aload_n 0, 1) := by decide +kernel
theorem dX12_sort_42 : decode cX12_sort 42 = .ok (.iload_n 1, 1) := by decide +kernel
theorem dX12_sort_43 : decode cX12_sort 43 = .ok (.invokevirtual 173, 3) := by decide +kernel
theorem dX12_sort_46 : decode cX12_sort 46 = .ok (.ifCond .eq 7, 3) := by decide +kernel
theorem dX12_sort_49 : decode cX12_sort 49 = .ok (.iconst 2, 1) := by decide +kernel
theorem dX12_sort_50 : decode cX12_sort 50 = .ok (.goto 4, 3) := by decide +kernel
theorem dX12_sort_53 : decode cX12_sort 53 = .ok (.iconst 0, 1) := by decide +kernel
theorem dX12_sort_54 : decode cX12_sort 54 = .ok (.ireturn, 1) := by decide +kernel
set_option maxRecDepth 20000 in
theorem ggX12_isColoured_X12_has : GoodIn wsX12_isColoured wsX12_has := goodIn_sub (gi_c 7 rfl gi_n) (by decide +kernel)
set_option maxRecDepth 20000 in
theorem gX12_isColoured_X12_has : GoodIn wsX12_isColoured (va_wsS RX12 90 yX12_has wsX12_has) := goodIn_app (goodIn_of _ (by decide +kernel)) ggX12_isColoured_X12_has
set_option maxRecDepth 20000 in
theorem ggX12_isColoured_X12_isColoured : GoodIn wsX12_isColoured wsX12_isColoured := goodIn_sub (gi_c 0 rfl (gi_a (gi_c 1 rfl (gi_c 2 rfl (gi_c 3 rfl (gi_c 4 rfl (gi_c 5 rfl (gi_c 6 rfl (gi_c 7 rfl (gi_c 8 rfl (gi_c 9 rfl (gi_c 10 rfl gi_n)))))))))) pz_X12_isColoured_X120)) (by decide +kernel)
set_option maxRecDepth 20000 in
theorem gX12_isColoured_X12_isColoured : GoodIn wsX12_isColoured (wsV RX12 176 RX12 yX12_isColoured wsX12_isColoured) := goodIn_app (goodIn_of _ (by decide +kernel)) ggX12_isColoured_X12_isColoured
theorem dX12_isColoured_0 : decode cX12_isColoured 0 = .ok (.iload_n 1, 1) := by decide +kernel
theorem dX12_isColoured_1 : decode cX12_isColoured 1 = .ok (.aload_n 0, 1) := by decide +kernel
theorem dX12_isColoured_2 : decode cX12_isColoured 2 = .ok (.getfield 73, 3) := by decide +kernel
theorem dX12_isColoured_5 : decode cX12_isColoured 5 = .ok (.if_icmp .ne 5, 3) := by decide +kernel
theorem dX12_isColoured_8 : decode cX12_isColoured 8 = .ok (.iconst 1, 1) := by decide +kernel
theorem dX12_isColoured_9 : decode cX12_isColoured 9 = .ok (.ireturn, 1) := by decide +kernel
theorem dX12_isColoured_10 : decode cX12_isColoured 10 = .ok (.iconst 0, 1) := by decide +kernel
theorem dX12_isColoured_11 : decode cX12_isColoured 11 = .ok (.istore_n 3, 1) := by decide +kernel
theorem dX12_isColoured_12 : decode cX12_isColoured 12 = .ok (.iload_n 3, 1) := by decide +kernel
theorem dX12_isColoured_13 : decode cX12_isColoured 13 = .ok (.iload_n 2, 1) := by decide +kernel
theorem dX12_isColoured_14 : decode cX12_isColoured 14 = .ok (.if_icmp .ge 89, 3) := by decide +kernel
theorem dX12_isColoured_17 : decode cX12_isColoured 17 = .ok (.iconst 1, 1) := by decide +kernel
theorem dX12_isColoured_18 : decode cX12_isColoured 18 = .ok (.istore 4, 2) := by decide +kernel
theorem dX12_isColoured_20 : decode cX12_isColoured 20 = .ok (.iconst 0, 1) := by decide +kernel
theorem dX12_isColoured_21 : decode cX12_isColoured 21 = .ok (.istore 5, 2) := by decide +kernel
theorem dX12_isColoured_23 : decode cX12_isColoured 23 = .ok (.iload 5, 2) := by decide +kernel
theorem dX12_isColoured_25 : decode cX12_isColoured 25 = .ok (.iload_n 1, 1) := by decide +kernel
theorem dX12_isColoured_26 : decode cX12_isColoured 26 = .ok (.if_icmp .ge 46, 3) := by decide +kernel
theorem dX12_isColoured_29 : decode cX12_isColoured 29 = .ok (.iload 4, 2) := by decide +kernel
theorem dX12_isColoured_31 : decode cX12_isColoured 31 = .ok (.ifCond .eq 32, 3) := by decide +kernel
theorem dX12_isColoured_34 : decode cX12_isColoured 34 = .ok (.aload_n 0, 1) := by decide +kernel
theorem dX12_isColoured_35 : decode cX12_isColoured 35 = .ok (.getfield 13, 3) := by decide +kernel
theorem dX12_isColoured_38 : decode cX12_isColoured 38 = .ok (.iload_n 1, 1) := by decide +kernel
theorem dX12_isColoured_39 : decode cX12_isColoured 39 = .ok (.iaload, 1) := by decide +kernel
theorem dX12_isColoured_40 : decode cX12_isColoured 40 = .ok (.iload 5, 2) := by decide +kernel
theorem dX12_isColoured_42 : decode cX12_isColoured 42 = .ok (.invokestatic 90, 3) := by decide +kernel
theorem dX12_isColoured_45 : decode cX12_isColoured 45 = .ok (.ifCond .eq 14, 3) := by decide +kernel
theorem dX12_isColoured_48 : decode cX12_isColoured 48 = .ok (.aload_n 0, 1) := by decide +kernel
theorem dX12_isColoured_49 : decode cX12_isColoured 49 = .ok (.getfield 48, 3) := by decide +kernel
theorem dX12_isColoured_52 : decode cX12_isColoured 52 = .ok (.iload 5, 2) := by decide +kernel
theorem dX12_isColoured_54 : decode cX12_isColoured 54 = .ok (.iaload, 1) := by decide +kernel
theorem dX12_isColoured_55 : decode cX12_isColoured 55 = .ok (.iload_n 3, 1) := by decide +kernel
theorem dX12_isColoured_56 : decode cX12_isColoured 56 = .ok (.if_icmp .eq 7, 3) := by decide +kernel
theorem dX12_isColoured_59 : decode cX12_isColoured 59 = .ok (.iconst 1, 1) := by decide +kernel
theorem dX12_isColoured_60 : decode cX12_isColoured 60 = .ok (.goto 4, 3) := by decide +kernel
theorem dX12_isColoured_63 : decode cX12_isColoured 63 = .ok (.iconst 0, 1) := by decide +kernel
theorem dX12_isColoured_64 : decode cX12_isColoured 64 = .ok (.istore 4, 2) := by decide +kernel
theorem dX12_isColoured_66 : decode cX12_isColoured 66 = .ok (.iinc 5 1, 3) := by decide +kernel
theorem dX12_isColoured_69 : decode cX12_isColoured 69 = .ok (.goto (-46), 3) := by decide +kernel
theorem dX12_isColoured_72 : decode cX12_isColoured 72 = .ok (.aload_n 0, 1) := by decide +kernel
theorem dX12_isColoured_73 : decode cX12_isColoured 73 = .ok (.getfield 48, 3) := by decide +kernel
theorem dX12_isColoured_76 : decode cX12_isColoured 76 = .ok (.iload_n 1, 1) := by decide +kernel
theorem dX12_isColoured_77 : decode cX12_isColoured 77 = .ok (.iload_n 3, 1) := by decide +kernel
theorem dX12_isColoured_78 : decode cX12_isColoured 78 = .ok (.iastore, 1) := by decide +kernel
theorem dX12_isColoured_79 : decode cX12_isColoured 79 = .ok (.iload 4, 2) := by decide +kernel
theorem dX12_isColoured_81 : decode cX12_isColoured 81 = .ok (.ifCond .eq 16, 3) := by decide +kernel
theorem dX12_isColoured_84 : decode cX12_isColoured 84 = .ok (.aload_n 0, 1) := by decide +kernel
theorem dX12_isColoured_85 : decode cX12_isColoured 85 = .ok (.iload_n 1, 1) := by decide +kernel
theorem dX12_isColoured_86 : decode cX12_isColoured 86 = .ok (.iconst 1, 1) := by decide +kernel
theorem dX12_isColoured_87 : decode cX12_isColoured 87 = .ok (.iadd, 1) := by decide +kernel
theorem dX12_isColoured_88 : decode cX12_isColoured 88 = .ok (.iload_n 2, 1) := by decide +kernel
theorem dX12_isColoured_89 : decode cX12_isColoured 89 = .ok (.invokevirtual 176, 3) := by decide +kernel
theorem dX12_isColoured_92 : decode cX12_isColoured 92 = .ok (.ifCond .eq 5, 3) := by decide +kernel
theorem dX12_isColoured_95 : decode cX12_isColoured 95 = .ok (.iconst 1, 1) := by decide +kernel
theorem dX12_isColoured_96 : decode cX12_isColoured 96 = .ok (.ireturn, 1) := by decide +kernel
theorem dX12_isColoured_97 : decode cX12_isColoured 97 = .ok (.iinc 3 1, 3) := by decide +kernel
theorem dX12_isColoured_100 : decode cX12_isColoured 100 = .ok (.goto (-88), 3) := by decide +kernel
theorem dX12_isColoured_103 : decode cX12_isColoured 103 = .ok (.iconst 0, 1) := by decide +kernel
theorem dX12_isColoured_104 : decode cX12_isColoured 104 = .ok (.ireturn, 1) := by decide +kernel
set_option maxRecDepth 20000 in
theorem ggX12_colour_X12_isNode : GoodIn wsX12_colour wsX12_isNode := goodIn_sub (gi_c 6 rfl (gi_a (gi_c 7 rfl (gi_c 8 rfl (gi_c 9 rfl (gi_c 5 rfl (gi_c 10 rfl gi_n))))) pz_X12_colour_X120)) (by decide +kernel)
set_option maxRecDepth 20000 in
theorem gX12_colour_X12_isNode : GoodIn wsX12_colour (wsV RX12 86 RX12 yX12_isNode wsX12_isNode) := goodIn_app (goodIn_of _ (by decide +kernel)) ggX12_colour_X12_isNode
set_option maxRecDepth 20000 in
theorem ggX12_colour_X12_isColoured : GoodIn wsX12_colour wsX12_isColoured := goodIn_sub (gi_c 14 rfl (gi_a (gi_c 7 rfl (gi_c 15 rfl (gi_c 1 rfl (gi_c 16 rfl (gi_c 17 rfl (gi_c 5 rfl (gi_c 18 rfl (gi_c 11 rfl (gi_c 12 rfl (gi_c 13 rfl gi_n)))))))))) pz_X12_colour_X120)) (by decide +kernel)
set_option maxRecDepth 20000 in
theorem gX12_colour_X12_isColoured : GoodIn wsX12_colour (wsV RX12 176 RX12 yX12_isColoured wsX12_isColoured) := goodIn_app (goodIn_of _ (by decide +kernel)) ggX12_colour_X12_isColoured
theorem dX12_colour_0 : decode cX12_colour 0 = .ok (.iload_n 1, 1) := by decide +kernel
theorem dX12_colour_1 : decode cX12_colour 1 = .ok (.iconst (-1), 1) := by decide +kernel
theorem dX12_colour_2 : decode cX12_colour 2 = .ok (.if_icmp .eq 13, 3) := by decide +kernel
theorem dX12_colour_5 : decode cX12_colour 5 = .ok (.aload_n 0, 1) := by decide +kernel
theorem dX12_colour_6 : decode cX12_colour 6 = .ok (.iload_n 1, 1) := by decide +kernel
theorem dX12_colour_7 : decode cX12_colour 7 = .ok (.invokevirtual 86, 3) := by decide +kernel
theorem dX12_colour_10 : decode cX12_colour 10 = .ok (.ifCond .ne 5, 3) := by decide +kernel
theorem dX12_colour_13 : decode cX12_colour 13 = .ok (.iconst (-1), 1) := by decide +kernel
theorem dX12_colour_14 : decode cX12_colour 14 = .ok (.ireturn, 1) := by decide +kernel
theorem dX12_colour_15 : decode cX12_colour 15 = .ok (.iconst 0, 1) := by decide +kernel
theorem dX12_colour_16 : decode cX12_colour 16 = .ok (.istore_n 2, 1) := by decide +kernel
theorem dX12_colour_17 : decode cX12_colour 17 = .ok (.aload_n 0, 1) := by decide +kernel
theorem dX12_colour_18 : decode cX12_colour 18 = .ok (.iconst 0, 1) := by decide +kernel
theorem dX12_colour_19 : decode cX12_colour 19 = .ok (.iload_n 2, 1) := by decide +kernel
theorem dX12_colour_20 : decode cX12_colour 20 = .ok (.invokevirtual 176, 3) := by decide +kernel
theorem dX12_colour_23 : decode cX12_colour 23 = .ok (.ifCond .ne 9, 3) := by decide +kernel
theorem dX12_colour_26 : decode cX12_colour 26 = .ok (.iinc 2 1, 3) := by decide +kernel
theorem dX12_colour_29 : decode cX12_colour 29 = .ok (.goto (-12), 3) := by decide +kernel
theorem dX12_colour_32 : decode cX12_colour 32 = .ok (.iload_n 1, 1) := by decide +kernel
theorem dX12_colour_33 : decode cX12_colour 33 = .ok (.iconst (-1), 1) := by decide +kernel
theorem dX12_colour_34 : decode cX12_colour 34 = .ok (.if_icmp .ne 7, 3) := by decide +kernel
theorem dX12_colour_37 : decode cX12_colour 37 = .ok (.iload_n 2, 1) := by decide +kernel
theorem dX12_colour_38 : decode cX12_colour 38 = .ok (.goto 9, 3) := by decide +kernel
theorem dX12_colour_41 : decode cX12_colour 41 = .ok (.aload_n 0, 1) := by decide +kernel
theorem dX12_colour_42 : decode cX12_colour 42 = .ok (.getfield 48, 3) := by decide +kernel
theorem dX12_colour_45 : decode cX12_colour 45 = .ok (.iload_n 1, 1) := by decide +kernel
theorem dX12_colour_46 : decode cX12_colour 46 = .ok (.iaload, 1) := by decide +kernel
theorem dX12_colour_47 : decode cX12_colour 47 = .ok (.ireturn, 1) := by decide +kernel
set_option maxRecDepth 20000 in
theorem ggX12_apart_X12_all : GoodIn wsX12_apart wsX12_all := goodIn_sub (gi_c 5 rfl (gi_a (gi_c 6 rfl gi_n) pz_X12_apart_X120)) (by decide +kernel)
set_option maxRecDepth 20000 in
theorem gX12_apart_X12_all : GoodIn wsX12_apart (wsV RX12 101 RX12 yX12_all wsX12_all) := goodIn_app (goodIn_of _ (by decide +kernel)) ggX12_apart_X12_all
set_option maxRecDepth 20000 in
theorem ggX12_apart_X12_bits : GoodIn wsX12_apart wsX12_bits := goodIn_sub (gi_c 9 rfl gi_n) (by decide +kernel)
set_option maxRecDepth 20000 in
theorem gX12_apart_X12_bits : GoodIn wsX12_apart (va_wsS RX12 109 yX12_bits wsX12_bits) := goodIn_app (goodIn_of _ (by decide +kernel)) ggX12_apart_X12_bits
set_option maxRecDepth 20000 in
theorem ggX12_apart_X12_isApart : GoodIn wsX12_apart wsX12_isApart := goodIn_sub (gi_c 13 rfl (gi_a (gi_c 6 rfl (gi_c 14 rfl (gi_c 15 rfl (gi_c 16 rfl (gi_c 4 rfl (gi_c 17 rfl gi_n)))))) pz_X12_apart_X120)) (by decide +kernel)
set_option maxRecDepth 20000 in
theorem gX12_apart_X12_isApart : GoodIn wsX12_apart (wsV RX12 173 RX12 yX12_isApart wsX12_isApart) := goodIn_app (goodIn_of _ (by decide +kernel)) ggX12_apart_X12_isApart
theorem dX12_apart_0 : decode cX12_apart 0 = .ok (.iconst 0, 1) := by decide +kernel
theorem dX12_apart_1 : decode cX12_apart 1 = .ok (.istore_n 1, 1) := by decide +kernel
theorem dX12_apart_2 : decode cX12_apart 2 = .ok (.iconst 0, 1) := by decide +kernel
theorem dX12_apart_3 : decode cX12_apart 3 = .ok (.istore_n 2, 1) := by decide +kernel
theorem dX12_apart_4 : decode cX12_apart 4 = .ok (.iload_n 2, 1) := by decide +kernel
theorem dX12_apart_5 : decode cX12_apart 5 = .ok (.aload_n 0, 1) := by decide +kernel
theorem dX12_apart_6 : decode cX12_apart 6 = .ok (.invokevirtual 101, 3) := by decide +kernel
theorem dX12_apart_9 : decode cX12_apart 9 = .ok (.if_icmp .gt 34, 3) := by decide +kernel
theorem dX12_apart_12 : decode cX12_apart 12 = .ok (.iload_n 2, 1) := by decide +kernel
theorem dX12_apart_13 : decode cX12_apart 13 = .ok (.invokestatic 109, 3) := by decide +kernel
theorem dX12_apart_16 : decode cX12_apart 16 = .ok (.iload_n 1, 1) := by decide +kernel
theorem dX12_apart_17 : decode cX12_apart 17 = .ok (.invokestatic 109, 3) := by decide +kernel
theorem dX12_apart_20 : decode cX12_apart 20 = .ok (.if_icmp .le 15, 3) := by decide +kernel
theorem dX12_apart_23 : decode cX12_apart 23 = .ok (.aload_n 0, 1) := by decide +kernel
theorem dX12_apart_24 : decode cX12_apart 24 = .ok (.iload_n 2, 1) := by decide +kernel
theorem dX12_apart_25 : decode cX12_apart 25 = .ok (.invokevirtual 173, 3) := by decide +kernel
theorem dX12_apart_28 : decode cX12_apart 28 = .ok (.ifCond .eq 7, 3) := by decide +kernel
theorem dX12_apart_31 : decode cX12_apart 31 = .ok (.iload_n 2, 1) := by decide +kernel
theorem dX12_apart_32 : decode cX12_apart 32 = .ok (.goto 4, 3) := by decide +kernel
theorem dX12_apart_35 : decode cX12_apart 35 = .ok (.iload_n 1, 1) := by decide +kernel
theorem dX12_apart_36 : decode cX12_apart 36 = .ok (.istore_n 1, 1) := by decide +kernel
theorem dX12_apart_37 : decode cX12_apart 37 = .ok (.iinc 2 1, 3) := by decide +kernel
theorem dX12_apart_40 : decode cX12_apart 40 = .ok (.goto (-36), 3) := by decide +kernel
theorem dX12_apart_43 : decode cX12_apart 43 = .ok (.iload_n 1, 1) := by decide +kernel
theorem dX12_apart_44 : decode cX12_apart 44 = .ok (.ireturn, 1) := by decide +kernel
set_option maxRecDepth 20000 in
theorem ggX12_setTree_X12_bits : GoodIn wsX12_setTree wsX12_bits := goodIn_sub (gi_c 7 rfl gi_n) (by decide +kernel)
set_option maxRecDepth 20000 in
theorem gX12_setTree_X12_bits : GoodIn wsX12_setTree (va_wsS RX12 109 yX12_bits wsX12_bits) := goodIn_app (goodIn_of _ (by decide +kernel)) ggX12_setTree_X12_bits
set_option maxRecDepth 20000 in
theorem ggX12_setTree_X12_has : GoodIn wsX12_setTree wsX12_has := goodIn_sub (gi_c 10 rfl gi_n) (by decide +kernel)
set_option maxRecDepth 20000 in
theorem gX12_setTree_X12_has : GoodIn wsX12_setTree (va_wsS RX12 90 yX12_has wsX12_has) := goodIn_app (goodIn_of _ (by decide +kernel)) ggX12_setTree_X12_has
theorem dX12_setTree_0 : decode cX12_setTree 0 = .ok (.iconst 0, 1) := by decide +kernel
theorem dX12_setTree_1 : decode cX12_setTree 1 = .ok (.istore_n 1, 1) := by decide +kernel
theorem dX12_setTree_2 : decode cX12_setTree 2 = .ok (.iload_n 1, 1) := by decide +kernel
theorem dX12_setTree_3 : decode cX12_setTree 3 = .ok (.aload_n 0, 1) := by decide +kernel
theorem dX12_setTree_4 : decode cX12_setTree 4 = .ok (.getfield 164, 3) := by decide +kernel
theorem dX12_setTree_7 : decode cX12_setTree 7 = .ok (.if_icmp .ge 17, 3) := by decide +kernel
theorem dX12_setTree_10 : decode cX12_setTree 10 = .ok (.aload_n 0, 1) := by decide +kernel
theorem dX12_setTree_11 : decode cX12_setTree 11 = .ok (.getfield 51, 3) := by decide +kernel
theorem dX12_setTree_14 : decode cX12_setTree 14 = .ok (.iload_n 1, 1) := by decide +kernel
theorem dX12_setTree_15 : decode cX12_setTree 15 = .ok (.bipush (-9), 2) := by decide +kernel
theorem dX12_setTree_17 : decode cX12_setTree 17 = .ok (.iastore, 1) := by decide +kernel
theorem dX12_setTree_18 : decode cX12_setTree 18 = .ok (.iinc 1 1, 3) := by decide +kernel
theorem dX12_setTree_21 : decode cX12_setTree 21 = .ok (.goto (-19), 3) := by decide +kernel
theorem dX12_setTree_24 : decode cX12_setTree 24 = .ok (.iconst 1, 1) := by decide +kernel
theorem dX12_setTree_25 : decode cX12_setTree 25 = .ok (.istore_n 1, 1) := by decide +kernel
theorem dX12_setTree_26 : decode cX12_setTree 26 = .ok (.iconst 1, 1) := by decide +kernel
theorem dX12_setTree_27 : decode cX12_setTree 27 = .ok (.istore_n 2, 1) := by decide +kernel
theorem dX12_setTree_28 : decode cX12_setTree 28 = .ok (.iload_n 2, 1) := by decide +kernel
theorem dX12_setTree_29 : decode cX12_setTree 29 = .ok (.aload_n 0, 1) := by decide +kernel
theorem dX12_setTree_30 : decode cX12_setTree 30 = .ok (.getfield 164, 3) := by decide +kernel
theorem dX12_setTree_33 : decode cX12_setTree 33 = .ok (.if_icmp .ge 127, 3) := by decide +kernel
theorem dX12_setTree_36 : decode cX12_setTree 36 = .ok (.bipush (-9), 2) := by decide +kernel
theorem dX12_setTree_38 : decode cX12_setTree 38 = .ok (.istore_n 3, 1) := by decide +kernel
theorem dX12_setTree_39 : decode cX12_setTree 39 = .ok (.bipush (-9), 2) := by decide +kernel
theorem dX12_setTree_41 : decode cX12_setTree 41 = .ok (.istore 4, 2) := by decide +kernel
theorem dX12_setTree_43 : decode cX12_setTree 43 = .ok (.bipush (-9), 2) := by decide +kernel
theorem dX12_setTree_45 : decode cX12_setTree 45 = .ok (.istore 5, 2) := by decide +kernel
theorem dX12_setTree_47 : decode cX12_setTree 47 = .ok (.iconst 0, 1) := by decide +kernel
theorem dX12_setTree_48 : decode cX12_setTree 48 = .ok (.istore 6, 2) := by decide +kernel
theorem dX12_setTree_50 : decode cX12_setTree 50 = .ok (.iload 6, 2) := by decide +kernel
theorem dX12_setTree_52 : decode cX12_setTree 52 = .ok (.aload_n 0, 1) := by decide +kernel
theorem dX12_setTree_53 : decode cX12_setTree 53 = .ok (.getfield 164, 3) := by decide +kernel
theorem dX12_setTree_56 : decode cX12_setTree 56 = .ok (.if_icmp .ge 83, 3) := by decide +kernel
theorem dX12_setTree_59 : decode cX12_setTree 59 = .ok (.iconst 0, 1) := by decide +kernel
theorem dX12_setTree_60 : decode cX12_setTree 60 = .ok (.istore 7, 2) := by decide +kernel
theorem dX12_setTree_62 : decode cX12_setTree 62 = .ok (.iload 7, 2) := by decide +kernel
theorem dX12_setTree_64 : decode cX12_setTree 64 = .ok (.aload_n 0, 1) := by decide +kernel
theorem dX12_setTree_65 : decode cX12_setTree 65 = .ok (.getfield 164, 3) := by decide +kernel
theorem dX12_setTree_68 : decode cX12_setTree 68 = .ok (.if_icmp .ge 65, 3) := by decide +kernel
theorem dX12_setTree_71 : decode cX12_setTree 71 = .ok (.aload_n 0, 1) := by decide +kernel
theorem dX12_setTree_72 : decode cX12_setTree 72 = .ok (.getfield 45, 3) := by decide +kernel
theorem dX12_setTree_75 : decode cX12_setTree 75 = .ok (.iload 6, 2) := by decide +kernel
theorem dX12_setTree_77 : decode cX12_setTree 77 = .ok (.iaload, 1) := by decide +kernel
theorem dX12_setTree_78 : decode cX12_setTree 78 = .ok (.aload_n 0, 1) := by decide +kernel
theorem dX12_setTree_79 : decode cX12_setTree 79 = .ok (.getfield 45, 3) := by decide +kernel
theorem dX12_setTree_82 : decode cX12_setTree 82 = .ok (.iload 7, 2) := by decide +kernel
theorem dX12_setTree_84 : decode cX12_setTree 84 = .ok (.iaload, 1) := by decide +kernel
theorem dX12_setTree_85 : decode cX12_setTree 85 = .ok (.iand, 1) := by decide +kernel
theorem dX12_setTree_86 : decode cX12_setTree 86 = .ok (.invokestatic 109, 3) := by decide +kernel
theorem dX12_setTree_89 : decode cX12_setTree 89 = .ok (.istore 8, 2) := by decide +kernel
theorem dX12_setTree_91 : decode cX12_setTree 91 = .ok (.iload_n 1, 1) := by decide +kernel
theorem dX12_setTree_92 : decode cX12_setTree 92 = .ok (.iload 6, 2) := by decide +kernel
theorem dX12_setTree_94 : decode cX12_setTree 94 = .ok (.invokestatic 90, 3) := by decide +kernel
theorem dX12_setTree_97 : decode cX12_setTree 97 = .ok (.ifCond .eq 30, 3) := by decide +kernel
theorem dX12_setTree_100 : decode cX12_setTree 100 = .ok (.iload_n 1, 1) := by decide +kernel
theorem dX12_setTree_101 : decode cX12_setTree 101 = .ok (.iload 7, 2) := by decide +kernel
theorem dX12_setTree_103 : decode cX12_setTree 103 = .ok (.invokestatic 90, 3) := by decide +kernel
theorem dX12_setTree_106 : decode cX12_setTree 106 = .ok (.ifCond .ne 21, 3) := by decide +kernel
theorem dX12_setTree_109 : decode cX12_setTree 109 = .ok (.iload 8, 2) := by decide +kernel
theorem dX12_setTree_111 : decode cX12_setTree 111 = .ok (.iload 5, 2) := by decide +kernel
theorem dX12_setTree_113 : decode cX12_setTree 113 = .ok (.if_icmp .le 14, 3) := by decide +kernel
theorem dX12_setTree_116 : decode cX12_setTree 116 = .ok (.iload 6, 2) := by decide +kernel
theorem dX12_setTree_118 : decode cX12_setTree 118 = .ok (.istore_n 3, 1) := by decide +kernel
theorem dX12_setTree_119 : decode cX12_setTree 119 = .ok (.iload 7, 2) := by decide +kernel
theorem dX12_setTree_121 : decode cX12_setTree 121 = .ok (.istore 4, 2) := by decide +kernel
theorem dX12_setTree_123 : decode cX12_setTree 123 = .ok (.iload 8, 2) := by decide +kernel
theorem dX12_setTree_125 : decode cX12_setTree 125 = .ok (.istore 5, 2) := by decide +kernel
theorem dX12_setTree_127 : decode cX12_setTree 127 = .ok (.iinc 7 1, 3) := by decide +kernel
theorem dX12_setTree_130 : decode cX12_setTree 130 = .ok (.goto (-68), 3) := by decide +kernel
theorem dX12_setTree_133 : decode cX12_setTree 133 = .ok (.iinc 6 1, 3) := by decide +kernel
theorem dX12_setTree_136 : decode cX12_setTree 136 = .ok (.goto (-86), 3) := by decide +kernel
theorem dX12_setTree_139 : decode cX12_setTree 139 = .ok (.aload_n 0, 1) := by decide +kernel
theorem dX12_setTree_140 : decode cX12_setTree 140 = .ok (.getfield 51, 3) := by decide +kernel
theorem dX12_setTree_143 : decode cX12_setTree 143 = .ok (.iload 4, 2) := by decide +kernel
theorem dX12_setTree_145 : decode cX12_setTree 145 = .ok (.iload_n 3, 1) := by decide +kernel
theorem dX12_setTree_146 : decode cX12_setTree 146 = .ok (.iastore, 1) := by decide +kernel
theorem dX12_setTree_147 : decode cX12_setTree 147 = .ok (.iload_n 1, 1) := by decide +kernel
theorem dX12_setTree_148 : decode cX12_setTree 148 = .ok (.iconst 1, 1) := by decide +kernel
theorem dX12_setTree_149 : decode cX12_setTree 149 = .ok (.iload 4, 2) := by decide +kernel
theorem dX12_setTree_151 : decode cX12_setTree 151 = .ok (.ishl, 1) := by decide +kernel
theorem dX12_setTree_152 : decode cX12_setTree 152 = .ok (.ior, 1) := by decide +kernel
theorem dX12_setTree_153 : decode cX12_setTree 153 = .ok (.istore_n 1, 1) := by decide +kernel
theorem dX12_setTree_154 : decode cX12_setTree 154 = .ok (.iinc 2 1, 3) := by decide +kernel
theorem dX12_setTree_157 : decode cX12_setTree 157 = .ok (.goto (-129), 3) := by decide +kernel
theorem dX12_setTree_160 : decode cX12_setTree 160 = .ok (.return_, 1) := by decide +kernel
set_option maxRecDepth 20000 in
theorem ggX12_tree_X12_setCliques : GoodIn wsX12_tree wsX12_setCliques := goodIn_sub (gi_t pz_X12_tree_X12_tree_r1 7 rfl (gi_a (gi_t pz_X12_tree_X12_tree_r1 0 rfl (gi_t pz_X12_tree_X12_tree_r1 2 rfl (gi_t pz_X12_tree_X12_tree_r1 8 rfl (gi_t pz_X12_tree_X12_tree_r1 9 rfl (gi_t pz_X12_tree_X12_tree_r1 10 rfl (gi_t pz_X12_tree_X12_tree_r1 6 rfl (gi_t pz_X12_tree_X12_tree_r1 11 rfl (gi_t pz_X12_tree_X12_tree_r1 12 rfl (gi_t pz_X12_tree_X12_tree_r1 13 rfl (gi_t pz_X12_tree_X12_tree_r1 14 rfl (gi_t pz_X12_tree_X12_tree_r1 15 rfl (gi_t pz_X12_tree_X12_tree_r1 16 rfl (gi_t pz_X12_tree_X12_tree_r1 17 rfl (gi_t pz_X12_tree_X12_tree_r1 18 rfl (gi_t pz_X12_tree_X12_tree_r1 19 rfl (gi_t pz_X12_tree_X12_tree_r1 20 rfl (gi_t pz_X12_tree_X12_tree_r1 21 rfl (gi_t pz_X12_tree_X12_tree_r1 22 rfl (gi_t pz_X12_tree_X12_tree_r1 23 rfl (gi_t pz_X12_tree_X12_tree_r2 0 rfl gi_n)))))))))))))))))))) pz_X12_tree_X120)) (by decide +kernel)
set_option maxRecDepth 20000 in
theorem gX12_tree_X12_setCliques : GoodIn wsX12_tree (wsV RX12 170 RX12 yX12_setCliques wsX12_setCliques) := goodIn_app (goodIn_of _ (by decide +kernel)) ggX12_tree_X12_setCliques
set_option maxRecDepth 20000 in
theorem ggX12_tree_X12_in : GoodIn wsX12_tree wsX12_in := goodIn_sub (gi_t pz_X12_tree_X12_tree_r2 3 rfl gi_n) (by decide +kernel)
set_option maxRecDepth 20000 in
theorem gX12_tree_X12_in : GoodIn wsX12_tree (va_wsS RX12 76 yX12_in wsX12_in) := goodIn_app (goodIn_of _ (by decide +kernel)) ggX12_tree_X12_in
set_option maxRecDepth 20000 in
theorem ggX12_tree_X12_isSound : GoodIn wsX12_tree wsX12_isSound := goodIn_sub (gi_t pz_X12_tree_X12_tree_r2 7 rfl (gi_a (gi_t pz_X12_tree_X12_tree_r1 12 rfl (gi_t pz_X12_tree_X12_tree_r1 17 rfl (gi_t pz_X12_tree_X12_tree_r1 8 rfl (gi_t pz_X12_tree_X12_tree_r1 9 rfl (gi_t pz_X12_tree_X12_tree_r1 10 rfl (gi_t pz_X12_tree_X12_tree_r1 6 rfl (gi_t pz_X12_tree_X12_tree_r1 11 rfl (gi_t pz_X12_tree_X12_tree_r1 22 rfl (gi_t pz_X12_tree_X12_tree_r1 23 rfl (gi_t pz_X12_tree_X12_tree_r2 0 rfl (gi_t pz_X12_tree_X12_tree_r1 18 rfl (gi_t pz_X12_tree_X12_tree_r1 19 rfl (gi_t pz_X12_tree_X12_tree_r1 20 rfl (gi_t pz_X12_tree_X12_tree_r1 21 rfl gi_n)))))))))))))) pz_X12_tree_X120)) (by decide +kernel)
set_option maxRecDepth 20000 in
theorem gX12_tree_X12_isSound : GoodIn wsX12_tree (wsV RX12 115 RX12 yX12_isSound wsX12_isSound) := goodIn_app (goodIn_of _ (by decide +kernel)) ggX12_tree_X12_isSound
set_option maxRecDepth 20000 in
theorem ggX12_tree_X12_setTree : GoodIn wsX12_tree wsX12_setTree := goodIn_sub (gi_t pz_X12_tree_X12_tree_r2 11 rfl (gi_a (gi_t pz_X12_tree_X12_tree_r1 0 rfl (gi_t pz_X12_tree_X12_tree_r1 1 rfl (gi_t pz_X12_tree_X12_tree_r1 2 rfl (gi_t pz_X12_tree_X12_tree_r2 12 rfl (gi_t pz_X12_tree_X12_tree_r2 13 rfl (gi_t pz_X12_tree_X12_tree_r1 6 rfl (gi_t pz_X12_tree_X12_tree_r2 14 rfl (gi_t pz_X12_tree_X12_tree_r1 22 rfl (gi_t pz_X12_tree_X12_tree_r1 23 rfl (gi_t pz_X12_tree_X12_tree_r2 0 rfl gi_n)))))))))) pz_X12_tree_X120)) (by decide +kernel)
set_option maxRecDepth 20000 in
theorem gX12_tree_X12_setTree : GoodIn wsX12_tree (wsV RX12 179 RX12 yX12_setTree wsX12_setTree) := goodIn_app (goodIn_of _ (by decide +kernel)) ggX12_tree_X12_setTree
theorem dX12_tree_0 : decode cX12_tree 0 = .ok (.aload_n 0, 1) := by decide +kernel
theorem dX12_tree_1 : decode cX12_tree 1 = .ok (.invokevirtual 170, 3) := by decide +kernel
theorem dX12_tree_4 : decode cX12_tree 4 = .ok (.iload_n 1, 1) := by decide +kernel
theorem dX12_tree_5 : decode cX12_tree 5 = .ok (.iconst 0, 1) := by decide +kernel
theorem dX12_tree_6 : decode cX12_tree 6 = .ok (.aload_n 0, 1) := by decide +kernel
theorem dX12_tree_7 : decode cX12_tree 7 = .ok (.getfield 164, 3) := by decide +kernel
theorem dX12_tree_10 : decode cX12_tree 10 = .ok (.iconst 1, 1) := by decide +kernel
theorem dX12_tree_11 : decode cX12_tree 11 = .ok (.isub, 1) := by decide +kernel
theorem dX12_tree_12 : decode cX12_tree 12 = .ok (.invokestatic 76, 3) := by decide +kernel
theorem dX12_tree_15 : decode cX12_tree 15 = .ok (.ifCond .eq 12, 3) := by decide +kernel
theorem dX12_tree_18 : decode cX12_tree 18 = .ok (.iload_n 2, 1) := by decide +kernel
theorem dX12_tree_19 : decode cX12_tree 19 = .ok (.iconst 0, 1) := by decide +kernel
theorem dX12_tree_20 : decode cX12_tree 20 = .ok (.iconst 1, 1) := by decide +kernel
theorem dX12_tree_21 : decode cX12_tree 21 = .ok (.invokestatic 76, 3) := by decide +kernel
theorem dX12_tree_24 : decode cX12_tree 24 = .ok (.ifCond .ne 5, 3) := by decide +kernel
theorem dX12_tree_27 : decode cX12_tree 27 = .ok (.iconst (-1), 1) := by decide +kernel
theorem dX12_tree_28 : decode cX12_tree 28 = .ok (.ireturn, 1) := by decide +kernel
theorem dX12_tree_29 : decode cX12_tree 29 = .ok (.aload_n 0, 1) := by decide +kernel
theorem dX12_tree_30 : decode cX12_tree 30 = .ok (.invokevirtual 115, 3) := by decide +kernel
theorem dX12_tree_33 : decode cX12_tree 33 = .ok (.ifCond .ne 6, 3) := by decide +kernel
theorem dX12_tree_36 : decode cX12_tree 36 = .ok (.bipush (-4), 2) := by decide +kernel
theorem dX12_tree_38 : decode cX12_tree 38 = .ok (.ireturn, 1) := by decide +kernel
theorem dX12_tree_39 : decode cX12_tree 39 = .ok (.aload_n 0, 1) := by decide +kernel
theorem dX12_tree_40 : decode cX12_tree 40 = .ok (.invokevirtual 179, 3) := by decide +kernel
theorem dX12_tree_43 : decode cX12_tree 43 = .ok (.iload_n 2, 1) := by decide +kernel
theorem dX12_tree_44 : decode cX12_tree 44 = .ok (.ifCond .ne 12, 3) := by decide +kernel
theorem dX12_tree_47 : decode cX12_tree 47 = .ok (.aload_n 0, 1) := by decide +kernel
theorem dX12_tree_48 : decode cX12_tree 48 = .ok (.getfield 51, 3) := by decide +kernel
theorem dX12_tree_51 : decode cX12_tree 51 = .ok (.iload_n 1, 1) := by decide +kernel
theorem dX12_tree_52 : decode cX12_tree 52 = .ok (.iaload, 1) := by decide +kernel
theorem dX12_tree_53 : decode cX12_tree 53 = .ok (.goto 34, 3) := by decide +kernel
theorem dX12_tree_56 : decode cX12_tree 56 = .ok (.aload_n 0, 1) := by decide +kernel
theorem dX12_tree_57 : decode cX12_tree 57 = .ok (.getfield 51, 3) := by decide +kernel
theorem dX12_tree_60 : decode cX12_tree 60 = .ok (.iload_n 1, 1) := by decide +kernel
theorem dX12_tree_61 : decode cX12_tree 61 = .ok (.iaload, 1) := by decide +kernel
theorem dX12_tree_62 : decode cX12_tree 62 = .ok (.ifCond .ge 7, 3) := by decide +kernel
theorem dX12_tree_65 : decode cX12_tree 65 = .ok (.iconst 0, 1) := by decide +kernel
theorem dX12_tree_66 : decode cX12_tree 66 = .ok (.goto 21, 3) := by decide +kernel
theorem dX12_tree_69 : decode cX12_tree 69 = .ok (.aload_n 0, 1) := by decide +kernel
theorem dX12_tree_70 : decode cX12_tree 70 = .ok (.getfield 45, 3) := by decide +kernel
theorem dX12_tree_73 : decode cX12_tree 73 = .ok (.iload_n 1, 1) := by decide +kernel
theorem dX12_tree_74 : decode cX12_tree 74 = .ok (.iaload, 1) := by decide +kernel
theorem dX12_tree_75 : decode cX12_tree 75 = .ok (.aload_n 0, 1) := by decide +kernel
theorem dX12_tree_76 : decode cX12_tree 76 = .ok (.getfield 45, 3) := by decide +kernel
theorem dX12_tree_79 : decode cX12_tree 79 = .ok (.aload_n 0, 1) := by decide +kernel
theorem dX12_tree_80 : decode cX12_tree 80 = .ok (.getfield 51, 3) := by decide +kernel
theorem dX12_tree_83 : decode cX12_tree 83 = .ok (.iload_n 1, 1) := by decide +kernel
theorem dX12_tree_84 : decode cX12_tree 84 = .ok (.iaload, 1) := by decide +kernel
theorem dX12_tree_85 : decode cX12_tree 85 = .ok (.iaload, 1) := by decide +kernel
theorem dX12_tree_86 : decode cX12_tree 86 = .ok (.iand, 1) := by decide +kernel
theorem dX12_tree_87 : decode cX12_tree 87 = .ok (.ireturn, 1) := by decide +kernel
set_option maxRecDepth 20000 in
theorem ggX12_reach_X12_has : GoodIn wsX12_reach wsX12_has := goodIn_sub (gi_c 6 rfl gi_n) (by decide +kernel)
set_option maxRecDepth 20000 in
theorem gX12_reach_X12_has : GoodIn wsX12_reach (va_wsS RX12 90 yX12_has wsX12_has) := goodIn_app (goodIn_of _ (by decide +kernel)) ggX12_reach_X12_has
theorem dX12_reach_0 : decode cX12_reach 0 = .ok (.iconst 1, 1) := by decide +kernel
theorem dX12_reach_1 : decode cX12_reach 1 = .ok (.iload_n 1, 1) := by decide +kernel
theorem dX12_reach_2 : decode cX12_reach 2 = .ok (.ishl, 1) := by decide +kernel
theorem dX12_reach_3 : decode cX12_reach 3 = .ok (.istore_n 3, 1) := by decide +kernel
theorem dX12_reach_4 : decode cX12_reach 4 = .ok (.iconst 1, 1) := by decide +kernel
theorem dX12_reach_5 : decode cX12_reach 5 = .ok (.istore 4, 2) := by decide +kernel
theorem dX12_reach_7 : decode cX12_reach 7 = .ok (.iload 4, 2) := by decide +kernel
theorem dX12_reach_9 : decode cX12_reach 9 = .ok (.ifCond .eq 72, 3) := by decide +kernel
theorem dX12_reach_12 : decode cX12_reach 12 = .ok (.iload_n 3, 1) := by decide +kernel
theorem dX12_reach_13 : decode cX12_reach 13 = .ok (.istore 5, 2) := by decide +kernel
theorem dX12_reach_15 : decode cX12_reach 15 = .ok (.iconst 0, 1) := by decide +kernel
theorem dX12_reach_16 : decode cX12_reach 16 = .ok (.istore 6, 2) := by decide +kernel
theorem dX12_reach_18 : decode cX12_reach 18 = .ok (.iload 6, 2) := by decide +kernel
theorem dX12_reach_20 : decode cX12_reach 20 = .ok (.aload_n 0, 1) := by decide +kernel
theorem dX12_reach_21 : decode cX12_reach 21 = .ok (.getfield 73, 3) := by decide +kernel
theorem dX12_reach_24 : decode cX12_reach 24 = .ok (.if_icmp .ge 38, 3) := by decide +kernel
theorem dX12_reach_27 : decode cX12_reach 27 = .ok (.iload 5, 2) := by decide +kernel
theorem dX12_reach_29 : decode cX12_reach 29 = .ok (.iload_n 3, 1) := by decide +kernel
theorem dX12_reach_30 : decode cX12_reach 30 = .ok (.iload 6, 2) := by decide +kernel
theorem dX12_reach_32 : decode cX12_reach 32 = .ok (.invokestatic 90, 3) := by decide +kernel
theorem dX12_reach_35 : decode cX12_reach 35 = .ok (.ifCond .eq 17, 3) := by decide +kernel
theorem dX12_reach_38 : decode cX12_reach 38 = .ok (.aload_n 0, 1) := by decide +kernel
theorem dX12_reach_39 : decode cX12_reach 39 = .ok (.getfield 13, 3) := by decide +kernel
theorem dX12_reach_42 : decode cX12_reach 42 = .ok (.iload 6, 2) := by decide +kernel
theorem dX12_reach_44 : decode cX12_reach 44 = .ok (.iaload, 1) := by decide +kernel
theorem dX12_reach_45 : decode cX12_reach 45 = .ok (.iload_n 2, 1) := by decide +kernel
theorem dX12_reach_46 : decode cX12_reach 46 = .ok (.iconst (-1), 1) := by decide +kernel
theorem dX12_reach_47 : decode cX12_reach 47 = .ok (.ixor, 1) := by decide +kernel
theorem dX12_reach_48 : decode cX12_reach 48 = .ok (.iand, 1) := by decide +kernel
theorem dX12_reach_49 : decode cX12_reach 49 = .ok (.goto 4, 3) := by decide +kernel
theorem dX12_reach_52 : decode cX12_reach 52 = .ok (.iconst 0, 1) := by decide +kernel
theorem dX12_reach_53 : decode cX12_reach 53 = .ok (.ior, 1) := by decide +kernel
theorem dX12_reach_54 : decode cX12_reach 54 = .ok (.istore 5, 2) := by decide +kernel
theorem dX12_reach_56 : decode cX12_reach 56 = .ok (.iinc 6 1, 3) := by decide +kernel
theorem dX12_reach_59 : decode cX12_reach 59 = .ok (.goto (-41), 3) := by decide +kernel
theorem dX12_reach_62 : decode cX12_reach 62 = .ok (.iload 5, 2) := by decide +kernel
theorem dX12_reach_64 : decode cX12_reach 64 = .ok (.iload_n 3, 1) := by decide +kernel
theorem dX12_reach_65 : decode cX12_reach 65 = .ok (.if_icmp .eq 7, 3) := by decide +kernel
theorem dX12_reach_68 : decode cX12_reach 68 = .ok (.iconst 1, 1) := by decide +kernel
theorem dX12_reach_69 : decode cX12_reach 69 = .ok (.goto 4, 3) := by decide +kernel
theorem dX12_reach_72 : decode cX12_reach 72 = .ok (.iconst 0, 1) := by decide +kernel
theorem dX12_reach_73 : decode cX12_reach 73 = .ok (.istore 4, 2) := by decide +kernel
theorem dX12_reach_75 : decode cX12_reach 75 = .ok (.iload 5, 2) := by decide +kernel
theorem dX12_reach_77 : decode cX12_reach 77 = .ok (.istore_n 3, 1) := by decide +kernel
theorem dX12_reach_78 : decode cX12_reach 78 = .ok (.goto (-71), 3) := by decide +kernel
theorem dX12_reach_81 : decode cX12_reach 81 = .ok (.iload_n 3, 1) := by decide +kernel
theorem dX12_reach_82 : decode cX12_reach 82 = .ok (.ireturn, 1) := by decide +kernel
set_option maxRecDepth 20000 in
theorem ggX12_parts_X12_reach : GoodIn wsX12_parts wsX12_reach := goodIn_sub (gi_c 5 rfl (gi_a (gi_c 6 rfl (gi_c 7 rfl (gi_c 8 rfl (gi_c 9 rfl (gi_c 4 rfl (gi_c 10 rfl gi_n)))))) pz_X12_parts_X120)) (by decide +kernel)
set_option maxRecDepth 20000 in
theorem gX12_parts_X12_reach : GoodIn wsX12_parts (wsV RX12 182 RX12 yX12_reach wsX12_reach) := goodIn_app (goodIn_of _ (by decide +kernel)) ggX12_parts_X12_reach
set_option maxRecDepth 20000 in
theorem ggX12_parts_X12_has : GoodIn wsX12_parts wsX12_has := goodIn_sub (gi_c 10 rfl gi_n) (by decide +kernel)
set_option maxRecDepth 20000 in
theorem gX12_parts_X12_has : GoodIn wsX12_parts (va_wsS RX12 90 yX12_has wsX12_has) := goodIn_app (goodIn_of _ (by decide +kernel)) ggX12_parts_X12_has
theorem dX12_parts_0 : decode cX12_parts 0 = .ok (.aload_n 0, 1) := by decide +kernel
theorem dX12_parts_1 : decode cX12_parts 1 = .ok (.iload_n 1, 1) := by decide +kernel
theorem dX12_parts_2 : decode cX12_parts 2 = .ok (.iload_n 3, 1) := by decide +kernel
theorem dX12_parts_3 : decode cX12_parts 3 = .ok (.invokevirtual 182, 3) := by decide +kernel
theorem dX12_parts_6 : decode cX12_parts 6 = .ok (.iload_n 2, 1) := by decide +kernel
theorem dX12_parts_7 : decode cX12_parts 7 = .ok (.invokestatic 90, 3) := by decide +kernel
theorem dX12_parts_10 : decode cX12_parts 10 = .ok (.ifCond .ne 7, 3) := by decide +kernel
theorem dX12_parts_13 : decode cX12_parts 13 = .ok (.iconst 1, 1) := by decide +kernel
theorem dX12_parts_14 : decode cX12_parts 14 = .ok (.goto 4, 3) := by decide +kernel
theorem dX12_parts_17 : decode cX12_parts 17 = .ok (.iconst 0, 1) := by decide +kernel
theorem dX12_parts_18 : decode cX12_parts 18 = .ok (.ireturn, 1) := by decide +kernel
set_option maxRecDepth 20000 in
theorem ggX12_isPart_X12_has : GoodIn wsX12_isPart wsX12_has := goodIn_sub (gi_c 5 rfl gi_n) (by decide +kernel)
set_option maxRecDepth 20000 in
theorem gX12_isPart_X12_has : GoodIn wsX12_isPart (va_wsS RX12 90 yX12_has wsX12_has) := goodIn_app (goodIn_of _ (by decide +kernel)) ggX12_isPart_X12_has
set_option maxRecDepth 20000 in
theorem ggX12_isPart_X12_parts : GoodIn wsX12_isPart wsX12_parts := goodIn_sub (gi_c 9 rfl (gi_a (gi_c 10 rfl (gi_c 11 rfl (gi_c 12 rfl (gi_c 4 rfl (gi_c 13 rfl (gi_c 1 rfl (gi_c 14 rfl (gi_c 2 rfl (gi_c 3 rfl (gi_c 5 rfl gi_n)))))))))) pz_X12_isPart_X120)) (by decide +kernel)
set_option maxRecDepth 20000 in
theorem gX12_isPart_X12_parts : GoodIn wsX12_isPart (wsV RX12 185 RX12 yX12_parts wsX12_parts) := goodIn_app (goodIn_of _ (by decide +kernel)) ggX12_isPart_X12_parts
theorem dX12_isPart_0 : decode cX12_isPart 0 = .ok (.iload_n 3, 1) := by decide +kernel
theorem dX12_isPart_1 : decode cX12_isPart 1 = .ok (.iload_n 1, 1) := by decide +kernel
theorem dX12_isPart_2 : decode cX12_isPart 2 = .ok (.invokestatic 90, 3) := by decide +kernel
theorem dX12_isPart_5 : decode cX12_isPart 5 = .ok (.ifCond .ne 25, 3) := by decide +kernel
theorem dX12_isPart_8 : decode cX12_isPart 8 = .ok (.iload_n 3, 1) := by decide +kernel
theorem dX12_isPart_9 : decode cX12_isPart 9 = .ok (.iload_n 2, 1) := by decide +kernel
theorem dX12_isPart_10 : decode cX12_isPart 10 = .ok (.invokestatic 90, 3) := by decide +kernel
theorem dX12_isPart_13 : decode cX12_isPart 13 = .ok (.ifCond .ne 17, 3) := by decide +kernel
theorem dX12_isPart_16 : decode cX12_isPart 16 = .ok (.aload_n 0, 1) := by decide +kernel
theorem dX12_isPart_17 : decode cX12_isPart 17 = .ok (.iload_n 1, 1) := by decide +kernel
theorem dX12_isPart_18 : decode cX12_isPart 18 = .ok (.iload_n 2, 1) := by decide +kernel
theorem dX12_isPart_19 : decode cX12_isPart 19 = .ok (.iload_n 3, 1) := by decide +kernel
theorem dX12_isPart_20 : decode cX12_isPart 20 = .ok (.invokevirtual 185, 3) := by decide +kernel
theorem dX12_isPart_23 : decode cX12_isPart 23 = .ok (.ifCond .eq 7, 3) := by decide +kernel
theorem dX12_isPart_26 : decode cX12_isPart 26 = .ok (.iconst 1, 1) := by decide +kernel
theorem dX12_isPart_27 : decode cX12_isPart 27 = .ok (.goto 4, 3) := by decide +kernel
theorem dX12_isPart_30 : decode cX12_isPart 30 = .ok (.iconst 0, 1) := by decide +kernel
theorem dX12_isPart_31 : decode cX12_isPart 31 = .ok (.istore 4, 2) := by decide +kernel
theorem dX12_isPart_33 : decode cX12_isPart 33 = .ok (.iconst 0, 1) := by decide +kernel
theorem dX12_isPart_34 : decode cX12_isPart 34 = .ok (.istore 5, 2) := by decide +kernel
theorem dX12_isPart_36 : decode cX12_isPart 36 = .ok (.iload 5, 2) := by decide +kernel
theorem dX12_isPart_38 : decode cX12_isPart 38 = .ok (.aload_n 0, 1) := by decide +kernel
theorem dX12_isPart_39 : decode cX12_isPart 39 = .ok (.getfield 73, 3) := by decide +kernel
theorem dX12_isPart_42 : decode cX12_isPart 42 = .ok (.if_icmp .ge 47, 3) := by decide +kernel
theorem dX12_isPart_45 : decode cX12_isPart 45 = .ok (.iload 4, 2) := by decide +kernel
theorem dX12_isPart_47 : decode cX12_isPart 47 = .ok (.ifCond .eq 33, 3) := by decide +kernel
theorem dX12_isPart_50 : decode cX12_isPart 50 = .ok (.iload_n 3, 1) := by decide +kernel
theorem dX12_isPart_51 : decode cX12_isPart 51 = .ok (.iload 5, 2) := by decide +kernel
theorem dX12_isPart_53 : decode cX12_isPart 53 = .ok (.invokestatic 90, 3) := by decide +kernel
theorem dX12_isPart_56 : decode cX12_isPart 56 = .ok (.ifCond .eq 20, 3) := by decide +kernel
theorem dX12_isPart_59 : decode cX12_isPart 59 = .ok (.aload_n 0, 1) := by decide +kernel
theorem dX12_isPart_60 : decode cX12_isPart 60 = .ok (.iload_n 1, 1) := by decide +kernel
theorem dX12_isPart_61 : decode cX12_isPart 61 = .ok (.iload_n 2, 1) := by decide +kernel
theorem dX12_isPart_62 : decode cX12_isPart 62 = .ok (.iload_n 3, 1) := by decide +kernel
theorem dX12_isPart_63 : decode cX12_isPart 63 = .ok (.iconst 1, 1) := by decide +kernel
theorem dX12_isPart_64 : decode cX12_isPart 64 = .ok (.iload 5, 2) := by decide +kernel
theorem dX12_isPart_66 : decode cX12_isPart 66 = .ok (.ishl, 1) := by decide +kernel
theorem dX12_isPart_67 : decode cX12_isPart 67 = .ok (.iconst (-1), 1) := by decide +kernel
theorem dX12_isPart_68 : decode cX12_isPart 68 = .ok (.ixor, 1) := by decide +kernel
theorem dX12_isPart_69 : decode cX12_isPart 69 = .ok (.iand, 1) := by decide +kernel
theorem dX12_isPart_70 : decode cX12_isPart 70 = .ok (.invokevirtual 185, 3) := by decide +kernel
theorem dX12_isPart_73 : decode cX12_isPart 73 = .ok (.ifCond .ne 7, 3) := by decide +kernel
theorem dX12_isPart_76 : decode cX12_isPart 76 = .ok (.iconst 1, 1) := by decide +kernel
theorem dX12_isPart_77 : decode cX12_isPart 77 = .ok (.goto 4, 3) := by decide +kernel
theorem dX12_isPart_80 : decode cX12_isPart 80 = .ok (.iconst 0, 1) := by decide +kernel
theorem dX12_isPart_81 : decode cX12_isPart 81 = .ok (.istore 4, 2) := by decide +kernel
theorem dX12_isPart_83 : decode cX12_isPart 83 = .ok (.iinc 5 1, 3) := by decide +kernel
theorem dX12_isPart_86 : decode cX12_isPart 86 = .ok (.goto (-50), 3) := by decide +kernel
theorem dX12_isPart_89 : decode cX12_isPart 89 = .ok (.iload 4, 2) := by decide +kernel
theorem dX12_isPart_91 : decode cX12_isPart 91 = .ok (.ireturn, 1) := by decide +kernel
set_option maxRecDepth 20000 in
theorem ggX12_part_X12_isNode : GoodIn wsX12_part wsX12_isNode := goodIn_sub (gi_t pz_X12_part_X12_part_r1 5 rfl (gi_a (gi_t pz_X12_part_X12_part_r1 6 rfl (gi_t pz_X12_part_X12_part_r1 7 rfl (gi_t pz_X12_part_X12_part_r1 8 rfl (gi_t pz_X12_part_X12_part_r1 4 rfl (gi_t pz_X12_part_X12_part_r1 9 rfl gi_n))))) pz_X12_part_X120)) (by decide +kernel)
set_option maxRecDepth 20000 in
theorem gX12_part_X12_isNode : GoodIn wsX12_part (wsV RX12 86 RX12 yX12_isNode wsX12_isNode) := goodIn_app (goodIn_of _ (by decide +kernel)) ggX12_part_X12_isNode
set_option maxRecDepth 20000 in
theorem ggX12_part_X12_has : GoodIn wsX12_part wsX12_has := goodIn_sub (gi_t pz_X12_part_X12_part_r1 12 rfl gi_n) (by decide +kernel)
set_option maxRecDepth 20000 in
theorem gX12_part_X12_has : GoodIn wsX12_part (va_wsS RX12 90 yX12_has wsX12_has) := goodIn_app (goodIn_of _ (by decide +kernel)) ggX12_part_X12_has
set_option maxRecDepth 20000 in
theorem ggX12_part_X12_all : GoodIn wsX12_part wsX12_all := goodIn_sub (gi_t pz_X12_part_X12_part_r1 16 rfl (gi_a (gi_t pz_X12_part_X12_part_r1 6 rfl gi_n) pz_X12_part_X120)) (by decide +kernel)
set_option maxRecDepth 20000 in
theorem gX12_part_X12_all : GoodIn wsX12_part (wsV RX12 101 RX12 yX12_all wsX12_all) := goodIn_app (goodIn_of _ (by decide +kernel)) ggX12_part_X12_all
set_option maxRecDepth 20000 in
theorem ggX12_part_X12_isPart : GoodIn wsX12_part wsX12_isPart := goodIn_sub (gi_t pz_X12_part_X12_part_r1 20 rfl (gi_a (gi_t pz_X12_part_X12_part_r1 6 rfl (gi_t pz_X12_part_X12_part_r1 10 rfl (gi_t pz_X12_part_X12_part_r1 11 rfl (gi_t pz_X12_part_X12_part_r1 4 rfl (gi_t pz_X12_part_X12_part_r1 12 rfl (gi_t pz_X12_part_X12_part_r1 21 rfl (gi_t pz_X12_part_X12_part_r1 22 rfl (gi_t pz_X12_part_X12_part_r1 23 rfl (gi_t pz_X12_part_X12_part_r2 0 rfl (gi_t pz_X12_part_X12_part_r2 1 rfl (gi_t pz_X12_part_X12_part_r2 2 rfl (gi_t pz_X12_part_X12_part_r2 3 rfl (gi_t pz_X12_part_X12_part_r2 4 rfl (gi_t pz_X12_part_X12_part_r1 0 rfl gi_n)))))))))))))) pz_X12_part_X120)) (by decide +kernel)
set_option maxRecDepth 20000 in
theorem gX12_part_X12_isPart : GoodIn wsX12_part (wsV RX12 188 RX12 yX12_isPart wsX12_isPart) := goodIn_app (goodIn_of _ (by decide +kernel)) ggX12_part_X12_isPart
theorem dX12_part_0 : decode cX12_part 0 = .ok (.aload_n 0, 1) := by decide +kernel
theorem dX12_part_1 : decode cX12_part 1 = .ok (.iload_n 1, 1) := by decide +kernel
theorem dX12_part_2 : decode cX12_part 2 = .ok (.invokevirtual 86, 3) := by decide +kernel
theorem dX12_part_5 : decode cX12_part 5 = .ok (.ifCond .eq 16, 3) := by decide +kernel
theorem dX12_part_8 : decode cX12_part 8 = .ok (.aload_n 0, 1) := by decide +kernel
theorem dX12_part_9 : decode cX12_part 9 = .ok (.iload_n 2, 1) := by decide +kernel
theorem dX12_part_10 : decode cX12_part 10 = .ok (.invokevirtual 86, 3) := by decide +kernel
theorem dX12_part_13 : decode cX12_part 13 = .ok (.ifCond .eq 8, 3) := by decide +kernel
theorem dX12_part_16 : decode cX12_part 16 = .ok (.iload_n 1, 1) := by decide +kernel
theorem dX12_part_17 : decode cX12_part 17 = .ok (.iload_n 2, 1) := by decide +kernel
theorem dX12_part_18 : decode cX12_part 18 = .ok (.if_icmp .ne 5, 3) := by decide +kernel
theorem dX12_part_21 : decode cX12_part 21 = .ok (.iconst (-1), 1) := by decide +kernel
theorem dX12_part_22 : decode cX12_part 22 = .ok (.ireturn, 1) := by decide +kernel
theorem dX12_part_23 : decode cX12_part 23 = .ok (.aload_n 0, 1) := by decide +kernel
theorem dX12_part_24 : decode cX12_part 24 = .ok (.getfield 13, 3) := by decide +kernel
theorem dX12_part_27 : decode cX12_part 27 = .ok (.iload_n 1, 1) := by decide +kernel
theorem dX12_part_28 : decode cX12_part 28 = .ok (.iaload, 1) := by decide +kernel
theorem dX12_part_29 : decode cX12_part 29 = .ok (.iload_n 2, 1) := by decide +kernel
theorem dX12_part_30 : decode cX12_part 30 = .ok (.invokestatic 90, 3) := by decide +kernel
theorem dX12_part_33 : decode cX12_part 33 = .ok (.ifCond .eq 6, 3) := by decide +kernel
theorem dX12_part_36 : decode cX12_part 36 = .ok (.bipush (-4), 2) := by decide +kernel
theorem dX12_part_38 : decode cX12_part 38 = .ok (.ireturn, 1) := by decide +kernel
theorem dX12_part_39 : decode cX12_part 39 = .ok (.iconst 0, 1) := by decide +kernel
theorem dX12_part_40 : decode cX12_part 40 = .ok (.istore 4, 2) := by decide +kernel
theorem dX12_part_42 : decode cX12_part 42 = .ok (.iconst 0, 1) := by decide +kernel
theorem dX12_part_43 : decode cX12_part 43 = .ok (.istore 5, 2) := by decide +kernel
theorem dX12_part_45 : decode cX12_part 45 = .ok (.iload 5, 2) := by decide +kernel
theorem dX12_part_47 : decode cX12_part 47 = .ok (.aload_n 0, 1) := by decide +kernel
theorem dX12_part_48 : decode cX12_part 48 = .ok (.invokevirtual 101, 3) := by decide +kernel
theorem dX12_part_51 : decode cX12_part 51 = .ok (.if_icmp .gt 32, 3) := by decide +kernel
theorem dX12_part_54 : decode cX12_part 54 = .ok (.aload_n 0, 1) := by decide +kernel
theorem dX12_part_55 : decode cX12_part 55 = .ok (.iload_n 1, 1) := by decide +kernel
theorem dX12_part_56 : decode cX12_part 56 = .ok (.iload_n 2, 1) := by decide +kernel
theorem dX12_part_57 : decode cX12_part 57 = .ok (.iload 5, 2) := by decide +kernel
theorem dX12_part_59 : decode cX12_part 59 = .ok (.invokevirtual 188, 3) := by decide +kernel
theorem dX12_part_62 : decode cX12_part 62 = .ok (.ifCond .eq 15, 3) := by decide +kernel
theorem dX12_part_65 : decode cX12_part 65 = .ok (.iload 4, 2) := by decide +kernel
theorem dX12_part_67 : decode cX12_part 67 = .ok (.iload_n 3, 1) := by decide +kernel
theorem dX12_part_68 : decode cX12_part 68 = .ok (.if_icmp .ne 6, 3) := by decide +kernel
theorem dX12_part_71 : decode cX12_part 71 = .ok (.iload 5, 2) := by decide +kernel
theorem dX12_part_73 : decode cX12_part 73 = .ok (.ireturn, 1) := by decide +kernel
theorem dX12_part_74 : decode cX12_part 74 = .ok (.iinc 4 1, 3) := by decide +kernel
theorem dX12_part_77 : decode cX12_part 77 = .ok (.iinc 5 1, 3) := by decide +kernel
theorem dX12_part_80 : decode cX12_part 80 = .ok (.goto (-35), 3) := by decide +kernel
theorem dX12_part_83 : decode cX12_part 83 = .ok (.iload_n 3, 1) := by decide +kernel
theorem dX12_part_84 : decode cX12_part 84 = .ok (.iconst (-1), 1) := by decide +kernel
theorem dX12_part_85 : decode cX12_part 85 = .ok (.if_icmp .ne 8, 3) := by decide +kernel
theorem dX12_part_88 : decode cX12_part 88 = .ok (.iload 4, 2) := by decide +kernel
theorem dX12_part_90 : decode cX12_part 90 = .ok (.goto 5, 3) := by decide +kernel
theorem dX12_part_93 : decode cX12_part 93 = .ok (.bipush (-9), 2) := by decide +kernel
theorem dX12_part_95 : decode cX12_part 95 = .ok (.ireturn, 1) := by decide +kernel
set_option maxRecDepth 20000 in
theorem ggX12_isWell_X12_has : GoodIn wsX12_isWell wsX12_has := goodIn_sub (gi_c 6 rfl gi_n) (by decide +kernel)
set_option maxRecDepth 20000 in
theorem gX12_isWell_X12_has : GoodIn wsX12_isWell (va_wsS RX12 90 yX12_has wsX12_has) := goodIn_app (goodIn_of _ (by decide +kernel)) ggX12_isWell_X12_has
theorem dX12_isWell_0 : decode cX12_isWell 0 = .ok (.iconst 0, 1) := by decide +kernel
theorem dX12_isWell_1 : decode cX12_isWell 1 = .ok (.istore_n 3, 1) := by decide +kernel
theorem dX12_isWell_2 : decode cX12_isWell 2 = .ok (.iconst 0, 1) := by decide +kernel
theorem dX12_isWell_3 : decode cX12_isWell 3 = .ok (.istore 4, 2) := by decide +kernel
theorem dX12_isWell_5 : decode cX12_isWell 5 = .ok (.iconst 0, 1) := by decide +kernel
theorem dX12_isWell_6 : decode cX12_isWell 6 = .ok (.istore 5, 2) := by decide +kernel
theorem dX12_isWell_8 : decode cX12_isWell 8 = .ok (.iload 5, 2) := by decide +kernel
theorem dX12_isWell_10 : decode cX12_isWell 10 = .ok (.aload_n 0, 1) := by decide +kernel
theorem dX12_isWell_11 : decode cX12_isWell 11 = .ok (.getfield 191, 3) := by decide +kernel
theorem dX12_isWell_14 : decode cX12_isWell 14 = .ok (.if_icmp .ge 43, 3) := by decide +kernel
theorem dX12_isWell_17 : decode cX12_isWell 17 = .ok (.iload_n 1, 1) := by decide +kernel
theorem dX12_isWell_18 : decode cX12_isWell 18 = .ok (.iload 5, 2) := by decide +kernel
theorem dX12_isWell_20 : decode cX12_isWell 20 = .ok (.invokestatic 90, 3) := by decide +kernel
theorem dX12_isWell_23 : decode cX12_isWell 23 = .ok (.ifCond .eq 16, 3) := by decide +kernel
theorem dX12_isWell_26 : decode cX12_isWell 26 = .ok (.iload_n 3, 1) := by decide +kernel
theorem dX12_isWell_27 : decode cX12_isWell 27 = .ok (.aload_n 0, 1) := by decide +kernel
theorem dX12_isWell_28 : decode cX12_isWell 28 = .ok (.getfield 54, 3) := by decide +kernel
theorem dX12_isWell_31 : decode cX12_isWell 31 = .ok (.iload 5, 2) := by decide +kernel
theorem dX12_isWell_33 : decode cX12_isWell 33 = .ok (.iaload, 1) := by decide +kernel
theorem dX12_isWell_34 : decode cX12_isWell 34 = .ok (.ior, 1) := by decide +kernel
theorem dX12_isWell_35 : decode cX12_isWell 35 = .ok (.istore_n 3, 1) := by decide +kernel
theorem dX12_isWell_36 : decode cX12_isWell 36 = .ok (.goto 15, 3) := by decide +kernel
theorem dX12_isWell_39 : decode cX12_isWell 39 = .ok (.iload 4, 2) := by decide +kernel
theorem dX12_isWell_41 : decode cX12_isWell 41 = .ok (.aload_n 0, 1) := by decide +kernel
theorem dX12_isWell_42 : decode cX12_isWell 42 = .ok (.getfield 54, 3) := by decide +kernel
theorem dX12_isWell_45 : decode cX12_isWell 45 = .ok (.iload 5, 2) := by decide +kernel
theorem dX12_isWell_47 : decode cX12_isWell 47 = .ok (.iaload, 1) := by decide +kernel
theorem dX12_isWell_48 : decode cX12_isWell 48 = .ok (.ior, 1) := by decide +kernel
theorem dX12_isWell_49 : decode cX12_isWell 49 = .ok (.istore 4, 2) := by decide +kernel
theorem dX12_isWell_51 : decode cX12_isWell 51 = .ok (.iinc 5 1, 3) := by decide +kernel
theorem dX12_isWell_54 : decode cX12_isWell 54 = .ok (.goto (-46), 3) := by decide +kernel
theorem dX12_isWell_57 : decode cX12_isWell 57 = .ok (.iload_n 3, 1) := by decide +kernel
theorem dX12_isWell_58 : decode cX12_isWell 58 = .ok (.iload 4, 2) := by decide +kernel
theorem dX12_isWell_60 : decode cX12_isWell 60 = .ok (.iand, 1) := by decide +kernel
theorem dX12_isWell_61 : decode cX12_isWell 61 = .ok (.aload_n 0, 1) := by decide +kernel
theorem dX12_isWell_62 : decode cX12_isWell 62 = .ok (.getfield 54, 3) := by decide +kernel
theorem dX12_isWell_65 : decode cX12_isWell 65 = .ok (.iload_n 2, 1) := by decide +kernel
theorem dX12_isWell_66 : decode cX12_isWell 66 = .ok (.iaload, 1) := by decide +kernel
theorem dX12_isWell_67 : decode cX12_isWell 67 = .ok (.iconst (-1), 1) := by decide +kernel
theorem dX12_isWell_68 : decode cX12_isWell 68 = .ok (.ixor, 1) := by decide +kernel
theorem dX12_isWell_69 : decode cX12_isWell 69 = .ok (.iand, 1) := by decide +kernel
theorem dX12_isWell_70 : decode cX12_isWell 70 = .ok (.ifCond .ne 7, 3) := by decide +kernel
theorem dX12_isWell_73 : decode cX12_isWell 73 = .ok (.iconst 1, 1) := by decide +kernel
theorem dX12_isWell_74 : decode cX12_isWell 74 = .ok (.goto 4, 3) := by decide +kernel
theorem dX12_isWell_77 : decode cX12_isWell 77 = .ok (.iconst 0, 1) := by decide +kernel
theorem dX12_isWell_78 : decode cX12_isWell 78 = .ok (.ireturn, 1) := by decide +kernel
set_option maxRecDepth 20000 in
theorem ggX12_setLine_X12_has : GoodIn wsX12_setLine wsX12_has := goodIn_sub (gi_c 9 rfl gi_n) (by decide +kernel)
set_option maxRecDepth 20000 in
theorem gX12_setLine_X12_has : GoodIn wsX12_setLine (va_wsS RX12 90 yX12_has wsX12_has) := goodIn_app (goodIn_of _ (by decide +kernel)) ggX12_setLine_X12_has
set_option maxRecDepth 20000 in
theorem ggX12_setLine_X12_isWell : GoodIn wsX12_setLine wsX12_isWell := goodIn_sub (gi_c 13 rfl (gi_a (gi_c 1 rfl (gi_c 14 rfl (gi_c 6 rfl (gi_c 7 rfl (gi_c 8 rfl (gi_c 9 rfl gi_n)))))) pz_X12_setLine_X120)) (by decide +kernel)
set_option maxRecDepth 20000 in
theorem gX12_setLine_X12_isWell : GoodIn wsX12_setLine (wsV RX12 194 RX12 yX12_isWell wsX12_isWell) := goodIn_app (goodIn_of _ (by decide +kernel)) ggX12_setLine_X12_isWell
theorem dX12_setLine_0 : decode cX12_setLine 0 = .ok (.iconst 1, 1) := by decide +kernel
theorem dX12_setLine_1 : decode cX12_setLine 1 = .ok (.aload_n 0, 1) := by decide +kernel
theorem dX12_setLine_2 : decode cX12_setLine 2 = .ok (.getfield 191, 3) := by decide +kernel
theorem dX12_setLine_5 : decode cX12_setLine 5 = .ok (.ishl, 1) := by decide +kernel
theorem dX12_setLine_6 : decode cX12_setLine 6 = .ok (.iconst 1, 1) := by decide +kernel
theorem dX12_setLine_7 : decode cX12_setLine 7 = .ok (.isub, 1) := by decide +kernel
theorem dX12_setLine_8 : decode cX12_setLine 8 = .ok (.istore_n 1, 1) := by decide +kernel
theorem dX12_setLine_9 : decode cX12_setLine 9 = .ok (.iload_n 1, 1) := by decide +kernel
theorem dX12_setLine_10 : decode cX12_setLine 10 = .ok (.istore_n 2, 1) := by decide +kernel
theorem dX12_setLine_11 : decode cX12_setLine 11 = .ok (.iload_n 2, 1) := by decide +kernel
theorem dX12_setLine_12 : decode cX12_setLine 12 = .ok (.ifCond .le 155, 3) := by decide +kernel
theorem dX12_setLine_15 : decode cX12_setLine 15 = .ok (.iconst 0, 1) := by decide +kernel
theorem dX12_setLine_16 : decode cX12_setLine 16 = .ok (.istore_n 3, 1) := by decide +kernel
theorem dX12_setLine_17 : decode cX12_setLine 17 = .ok (.iload_n 3, 1) := by decide +kernel
theorem dX12_setLine_18 : decode cX12_setLine 18 = .ok (.aload_n 0, 1) := by decide +kernel
theorem dX12_setLine_19 : decode cX12_setLine 19 = .ok (.getfield 191, 3) := by decide +kernel
theorem dX12_setLine_22 : decode cX12_setLine 22 = .ok (.if_icmp .ge 139, 3) := by decide +kernel
theorem dX12_setLine_25 : decode cX12_setLine 25 = .ok (.bipush 12, 2) := by decide +kernel
theorem dX12_setLine_27 : decode cX12_setLine 27 = .ok (.iload_n 2, 1) := by decide +kernel
theorem dX12_setLine_28 : decode cX12_setLine 28 = .ok (.imul, 1) := by decide +kernel
theorem dX12_setLine_29 : decode cX12_setLine 29 = .ok (.iload_n 3, 1) := by decide +kernel
theorem dX12_setLine_30 : decode cX12_setLine 30 = .ok (.iadd, 1) := by decide +kernel
theorem dX12_setLine_31 : decode cX12_setLine 31 = .ok (.istore 4, 2) := by decide +kernel
theorem dX12_setLine_33 : decode cX12_setLine 33 = .ok (.aload_n 0, 1) := by decide +kernel
theorem dX12_setLine_34 : decode cX12_setLine 34 = .ok (.getfield 61, 3) := by decide +kernel
theorem dX12_setLine_37 : decode cX12_setLine 37 = .ok (.iload 4, 2) := by decide +kernel
theorem dX12_setLine_39 : decode cX12_setLine 39 = .ok (.iconst 0, 1) := by decide +kernel
theorem dX12_setLine_40 : decode cX12_setLine 40 = .ok (.iastore, 1) := by decide +kernel
theorem dX12_setLine_41 : decode cX12_setLine 41 = .ok (.iload_n 2, 1) := by decide +kernel
theorem dX12_setLine_42 : decode cX12_setLine 42 = .ok (.iload_n 3, 1) := by decide +kernel
theorem dX12_setLine_43 : decode cX12_setLine 43 = .ok (.invokestatic 90, 3) := by decide +kernel
theorem dX12_setLine_46 : decode cX12_setLine 46 = .ok (.ifCond .eq 87, 3) := by decide +kernel
theorem dX12_setLine_49 : decode cX12_setLine 49 = .ok (.aload_n 0, 1) := by decide +kernel
theorem dX12_setLine_50 : decode cX12_setLine 50 = .ok (.iload_n 2, 1) := by decide +kernel
theorem dX12_setLine_51 : decode cX12_setLine 51 = .ok (.iload_n 3, 1) := by decide +kernel
theorem dX12_setLine_52 : decode cX12_setLine 52 = .ok (.invokevirtual 194, 3) := by decide +kernel
theorem dX12_setLine_55 : decode cX12_setLine 55 = .ok (.ifCond .eq 78, 3) := by decide +kernel
theorem dX12_setLine_58 : decode cX12_setLine 58 = .ok (.aload_n 0, 1) := by decide +kernel
theorem dX12_setLine_59 : decode cX12_setLine 59 = .ok (.getfield 61, 3) := by decide +kernel
theorem dX12_setLine_62 : decode cX12_setLine 62 = .ok (.iload 4, 2) := by decide +kernel
theorem dX12_setLine_64 : decode cX12_setLine 64 = .ok (.iload_n 2, 1) := by decide +kernel
theorem dX12_setLine_65 : decode cX12_setLine 65 = .ok (.iload_n 1, 1) := by decide +kernel
theorem dX12_setLine_66 : decode cX12_setLine 66 = .ok (.if_icmp .ne 7, 3) := by decide +kernel
theorem dX12_setLine_69 : decode cX12_setLine 69 = .ok (.iconst 1, 1) := by decide +kernel
theorem dX12_setLine_70 : decode cX12_setLine 70 = .ok (.goto 4, 3) := by decide +kernel
theorem dX12_setLine_73 : decode cX12_setLine 73 = .ok (.iconst 0, 1) := by decide +kernel
theorem dX12_setLine_74 : decode cX12_setLine 74 = .ok (.iastore, 1) := by decide +kernel
theorem dX12_setLine_75 : decode cX12_setLine 75 = .ok (.iconst 0, 1) := by decide +kernel
theorem dX12_setLine_76 : decode cX12_setLine 76 = .ok (.istore 5, 2) := by decide +kernel
theorem dX12_setLine_78 : decode cX12_setLine 78 = .ok (.iload 5, 2) := by decide +kernel
theorem dX12_setLine_80 : decode cX12_setLine 80 = .ok (.aload_n 0, 1) := by decide +kernel
theorem dX12_setLine_81 : decode cX12_setLine 81 = .ok (.getfield 191, 3) := by decide +kernel
theorem dX12_setLine_84 : decode cX12_setLine 84 = .ok (.if_icmp .ge 49, 3) := by decide +kernel
theorem dX12_setLine_87 : decode cX12_setLine 87 = .ok (.aload_n 0, 1) := by decide +kernel
theorem dX12_setLine_88 : decode cX12_setLine 88 = .ok (.getfield 61, 3) := by decide +kernel
theorem dX12_setLine_91 : decode cX12_setLine 91 = .ok (.iload 4, 2) := by decide +kernel
theorem dX12_setLine_93 : decode cX12_setLine 93 = .ok (.dup2, 1) := by decide +kernel
theorem dX12_setLine_94 : decode cX12_setLine 94 = .ok (.iaload, 1) := by decide +kernel
theorem dX12_setLine_95 : decode cX12_setLine 95 = .ok (.iload_n 2, 1) := by decide +kernel
theorem dX12_setLine_96 : decode cX12_setLine 96 = .ok (.iload 5, 2) := by decide +kernel
theorem dX12_setLine_98 : decode cX12_setLine 98 = .ok (.invokestatic 90, 3) := by decide +kernel
theorem dX12_setLine_101 : decode cX12_setLine 101 = .ok (.ifCond .eq 7, 3) := by decide +kernel
theorem dX12_setLine_104 : decode cX12_setLine 104 = .ok (.iconst 0, 1) := by decide +kernel
theorem dX12_setLine_105 : decode cX12_setLine 105 = .ok (.goto 20, 3) := by decide +kernel
theorem dX12_setLine_108 : decode cX12_setLine 108 = .ok (.aload_n 0, 1) := by decide +kernel
theorem dX12_setLine_109 : decode cX12_setLine 109 = .ok (.getfield 61, 3) := by decide +kernel
theorem dX12_setLine_112 : decode cX12_setLine 112 = .ok (.bipush 12, 2) := by decide +kernel
theorem dX12_setLine_114 : decode cX12_setLine 114 = .ok (.iload_n 2, 1) := by decide +kernel
theorem dX12_setLine_115 : decode cX12_setLine 115 = .ok (.iconst 1, 1) := by decide +kernel
theorem dX12_setLine_116 : decode cX12_setLine 116 = .ok (.iload 5, 2) := by decide +kernel
theorem dX12_setLine_118 : decode cX12_setLine 118 = .ok (.ishl, 1) := by decide +kernel
theorem dX12_setLine_119 : decode cX12_setLine 119 = .ok (.ior, 1) := by decide +kernel
theorem dX12_setLine_120 : decode cX12_setLine 120 = .ok (.imul, 1) := by decide +kernel
theorem dX12_setLine_121 : decode cX12_setLine 121 = .ok (.iload 5, 2) := by decide +kernel
theorem dX12_setLine_123 : decode cX12_setLine 123 = .ok (.iadd, 1) := by decide +kernel
theorem dX12_setLine_124 : decode cX12_setLine 124 = .ok (.iaload, 1) := by decide +kernel
theorem dX12_setLine_125 : decode cX12_setLine 125 = .ok (.iadd, 1) := by decide +kernel
theorem dX12_setLine_126 : decode cX12_setLine 126 = .ok (.iastore, 1) := by decide +kernel
theorem dX12_setLine_127 : decode cX12_setLine 127 = .ok (.iinc 5 1, 3) := by decide +kernel
theorem dX12_setLine_130 : decode cX12_setLine 130 = .ok (.goto (-52), 3) := by decide +kernel
theorem dX12_setLine_133 : decode cX12_setLine 133 = .ok (.aload_n 0, 1) := by decide +kernel
theorem dX12_setLine_134 : decode cX12_setLine 134 = .ok (.getfield 57, 3) := by decide +kernel
theorem dX12_setLine_137 : decode cX12_setLine 137 = .ok (.iload 4, 2) := by decide +kernel
theorem dX12_setLine_139 : decode cX12_setLine 139 = .ok (.aload_n 0, 1) := by decide +kernel
theorem dX12_setLine_140 : decode cX12_setLine 140 = .ok (.getfield 61, 3) := by decide +kernel
theorem dX12_setLine_143 : decode cX12_setLine 143 = .ok (.iload 4, 2) := by decide +kernel
theorem dX12_setLine_145 : decode cX12_setLine 145 = .ok (.iaload, 1) := by decide +kernel
theorem dX12_setLine_146 : decode cX12_setLine 146 = .ok (.ifCond .le 7, 3) := by decide +kernel
theorem dX12_setLine_149 : decode cX12_setLine 149 = .ok (.iconst 1, 1) := by decide +kernel
theorem dX12_setLine_150 : decode cX12_setLine 150 = .ok (.goto 4, 3) := by decide +kernel
theorem dX12_setLine_153 : decode cX12_setLine 153 = .ok (.iconst 0, 1) := by decide +kernel
theorem dX12_setLine_154 : decode cX12_setLine 154 = .ok (.bastore, 1) := by decide +kernel
theorem dX12_setLine_155 : decode cX12_setLine 155 = .ok (.iinc 3 1, 3) := by decide +kernel
theorem dX12_setLine_158 : decode cX12_setLine 158 = .ok (.goto (-141), 3) := by decide +kernel
theorem dX12_setLine_161 : decode cX12_setLine 161 = .ok (.iinc 2 (-1), 3) := by decide +kernel
theorem dX12_setLine_164 : decode cX12_setLine 164 = .ok (.goto (-153), 3) := by decide +kernel
theorem dX12_setLine_167 : decode cX12_setLine 167 = .ok (.aload_n 0, 1) := by decide +kernel
theorem dX12_setLine_168 : decode cX12_setLine 168 = .ok (.iconst 0, 1) := by decide +kernel
theorem dX12_setLine_169 : decode cX12_setLine 169 = .ok (.putfield 197, 3) := by decide +kernel
theorem dX12_setLine_172 : decode cX12_setLine 172 = .ok (.iconst 0, 1) := by decide +kernel
theorem dX12_setLine_173 : decode cX12_setLine 173 = .ok (.istore_n 2, 1) := by decide +kernel
theorem dX12_setLine_174 : decode cX12_setLine 174 = .ok (.aload_n 0, 1) := by decide +kernel
theorem dX12_setLine_175 : decode cX12_setLine 175 = .ok (.getfield 191, 3) := by decide +kernel
theorem dX12_setLine_178 : decode cX12_setLine 178 = .ok (.ifCond .le 7, 3) := by decide +kernel
theorem dX12_setLine_181 : decode cX12_setLine 181 = .ok (.iconst 1, 1) := by decide +kernel
theorem dX12_setLine_182 : decode cX12_setLine 182 = .ok (.goto 4, 3) := by decide +kernel
theorem dX12_setLine_185 : decode cX12_setLine 185 = .ok (.iconst 0, 1) := by decide +kernel
theorem dX12_setLine_186 : decode cX12_setLine 186 = .ok (.istore_n 3, 1) := by decide +kernel
theorem dX12_setLine_187 : decode cX12_setLine 187 = .ok (.iload_n 3, 1) := by decide +kernel
theorem dX12_setLine_188 : decode cX12_setLine 188 = .ok (.ifCond .eq 89, 3) := by decide +kernel
theorem dX12_setLine_191 : decode cX12_setLine 191 = .ok (.iconst 0, 1) := by decide +kernel
theorem dX12_setLine_192 : decode cX12_setLine 192 = .ok (.istore_n 3, 1) := by decide +kernel
theorem dX12_setLine_193 : decode cX12_setLine 193 = .ok (.iconst 0, 1) := by decide +kernel
theorem dX12_setLine_194 : decode cX12_setLine 194 = .ok (.istore 4, 2) := by decide +kernel
theorem dX12_setLine_196 : decode cX12_setLine 196 = .ok (.iload 4, 2) := by decide +kernel
theorem dX12_setLine_198 : decode cX12_setLine 198 = .ok (.aload_n 0, 1) := by decide +kernel
theorem dX12_setLine_199 : decode cX12_setLine 199 = .ok (.getfield 191, 3) := by decide +kernel
theorem dX12_setLine_202 : decode cX12_setLine 202 = .ok (.if_icmp .ge 72, 3) := by decide +kernel
theorem dX12_setLine_205 : decode cX12_setLine 205 = .ok (.iload_n 3, 1) := by decide +kernel
theorem dX12_setLine_206 : decode cX12_setLine 206 = .ok (.ifCond .ne 68, 3) := by decide +kernel
theorem dX12_setLine_209 : decode cX12_setLine 209 = .ok (.iload_n 2, 1) := by decide +kernel
theorem dX12_setLine_210 : decode cX12_setLine 210 = .ok (.iload 4, 2) := by decide +kernel
theorem dX12_setLine_212 : decode cX12_setLine 212 = .ok (.invokestatic 90, 3) := by decide +kernel
theorem dX12_setLine_215 : decode cX12_setLine 215 = .ok (.ifCond .ne 53, 3) := by decide +kernel
theorem dX12_setLine_218 : decode cX12_setLine 218 = .ok (.aload_n 0, 1) := by decide +kernel
theorem dX12_setLine_219 : decode cX12_setLine 219 = .ok (.getfield 57, 3) := by decide +kernel
theorem dX12_setLine_222 : decode cX12_setLine 222 = .ok (.bipush 12, 2) := by decide +kernel
theorem dX12_setLine_224 : decode cX12_setLine 224 = .ok (.iload_n 2, 1) := by decide +kernel
theorem dX12_setLine_225 : decode cX12_setLine 225 = .ok (.iconst 1, 1) := by decide +kernel
theorem dX12_setLine_226 : decode cX12_setLine 226 = .ok (.iload 4, 2) := by decide +kernel
theorem dX12_setLine_228 : decode cX12_setLine 228 = .ok (.ishl, 1) := by decide +kernel
theorem dX12_setLine_229 : decode cX12_setLine 229 = .ok (.ior, 1) := by decide +kernel
theorem dX12_setLine_230 : decode cX12_setLine 230 = .ok (.imul, 1) := by decide +kernel
theorem dX12_setLine_231 : decode cX12_setLine 231 = .ok (.iload 4, 2) := by decide +kernel
theorem dX12_setLine_233 : decode cX12_setLine 233 = .ok (.iadd, 1) := by decide +kernel
theorem dX12_setLine_234 : decode cX12_setLine 234 = .ok (.baload, 1) := by decide +kernel
theorem dX12_setLine_235 : decode cX12_setLine 235 = .ok (.ifCond .eq 33, 3) := by decide +kernel
theorem dX12_setLine_238 : decode cX12_setLine 238 = .ok (.aload_n 0, 1) := by decide +kernel
theorem dX12_setLine_239 : decode cX12_setLine 239 = .ok (.getfield 64, 3) := by decide +kernel
theorem dX12_setLine_242 : decode cX12_setLine 242 = .ok (.aload_n 0, 1) := by decide +kernel
theorem dX12_setLine_243 : decode cX12_setLine 243 = .ok (.getfield 197, 3) := by decide +kernel
theorem dX12_setLine_246 : decode cX12_setLine 246 = .ok (.iload 4, 2) := by decide +kernel
theorem dX12_setLine_248 : decode cX12_setLine 248 = .ok (.iastore, 1) := by decide +kernel
theorem dX12_setLine_249 : decode cX12_setLine 249 = .ok (.aload_n 0, 1) := by decide +kernel
theorem dX12_setLine_250 : decode cX12_setLine 250 = .ok (.dup, 1) := by decide +kernel
theorem dX12_setLine_251 : decode cX12_setLine 251 = .ok (.getfield 197, 3) := by decide +kernel
theorem dX12_setLine_254 : decode cX12_setLine 254 = .ok (.iconst 1, 1) := by decide +kernel
theorem dX12_setLine_255 : decode cX12_setLine 255 = .ok (.iadd, 1) := by decide +kernel
theorem dX12_setLine_256 : decode cX12_setLine 256 = .ok (.putfield 197, 3) := by decide +kernel
theorem dX12_setLine_259 : decode cX12_setLine 259 = .ok (.iload_n 2, 1) := by decide +kernel
theorem dX12_setLine_260 : decode cX12_setLine 260 = .ok (.iconst 1, 1) := by decide +kernel
theorem dX12_setLine_261 : decode cX12_setLine 261 = .ok (.iload 4, 2) := by decide +kernel
theorem dX12_setLine_263 : decode cX12_setLine 263 = .ok (.ishl, 1) := by decide +kernel
theorem dX12_setLine_264 : decode cX12_setLine 264 = .ok (.ior, 1) := by decide +kernel
theorem dX12_setLine_265 : decode cX12_setLine 265 = .ok (.istore_n 2, 1) := by decide +kernel
theorem dX12_setLine_266 : decode cX12_setLine 266 = .ok (.iconst 1, 1) := by decide +kernel
theorem dX12_setLine_267 : decode cX12_setLine 267 = .ok (.istore_n 3, 1) := by decide +kernel
theorem dX12_setLine_268 : decode cX12_setLine 268 = .ok (.iinc 4 1, 3) := by decide +kernel
theorem dX12_setLine_271 : decode cX12_setLine 271 = .ok (.goto (-75), 3) := by decide +kernel
theorem dX12_setLine_274 : decode cX12_setLine 274 = .ok (.goto (-87), 3) := by decide +kernel
theorem dX12_setLine_277 : decode cX12_setLine 277 = .ok (.return_, 1) := by decide +kernel
theorem dX12_lines_0 : decode cX12_lines 0 = .ok (.aload_n 0, 1) := by decide +kernel
theorem dX12_lines_1 : decode cX12_lines 1 = .ok (.getfield 191, 3) := by decide +kernel
theorem dX12_lines_4 : decode cX12_lines 4 = .ok (.ifCond .ne 7, 3) := by decide +kernel
theorem dX12_lines_7 : decode cX12_lines 7 = .ok (.iconst 1, 1) := by decide +kernel
