theorem pz_X0_refuse_X00 : ∀ x ∈ wsX00, x ∈ wsX0_refuse := fun _ h => (List.mem_cons_of_mem _ (List.mem_append_right _ h))
theorem pz_X0_findFirst_X00 : ∀ x ∈ wsX00, x ∈ wsX0_findFirst := fun _ h => (List.mem_cons_of_mem _ (List.mem_append_right _ h))
theorem pz_X0_seatsRest_X00 : ∀ x ∈ wsX00, x ∈ wsX0_seatsRest := fun _ h => (List.mem_cons_of_mem _ (List.mem_append_right _ h))
theorem pz_X0_countWays_X00 : ∀ x ∈ wsX00, x ∈ wsX0_countWays := fun _ h => (List.mem_cons_of_mem _ (List.mem_append_right _ h))
theorem pz_X1_bring_X1_bring_r1 : ∀ x ∈ wsX1_bring_r1, x ∈ wsX1_bring := fun _ h => (List.mem_cons_of_mem _ (List.mem_append_left _ (List.mem_append_left _ (List.mem_append_left _ h))))
theorem pz_X1_bring_X40 : ∀ x ∈ wsX40, x ∈ wsX1_bring := fun _ h => (List.mem_cons_of_mem _ (List.mem_append_right _ h))
theorem pz_X1_bring_X1_bring_r2 : ∀ x ∈ wsX1_bring_r2, x ∈ wsX1_bring := fun _ h => (List.mem_cons_of_mem _ (List.mem_append_left _ (List.mem_append_left _ (List.mem_append_right _ h))))
theorem pz_X1_bring_X10 : ∀ x ∈ wsX10, x ∈ wsX1_bring := fun _ h => (List.mem_cons_of_mem _ (List.mem_append_left _ (List.mem_append_right _ h)))
theorem pz_X1_gather_X10 : ∀ x ∈ wsX10, x ∈ wsX1_gather := fun _ h => (List.mem_cons_of_mem _ (List.mem_append_right _ h))
theorem pz_X1_bringTree_X10 : ∀ x ∈ wsX10, x ∈ wsX1_bringTree := fun _ h => (List.mem_cons_of_mem _ (List.mem_append_right _ h))
theorem pz_X2_bring_X2_bring_r2 : ∀ x ∈ wsX2_bring_r2, x ∈ wsX2_bring := fun _ h => (List.mem_cons_of_mem _ (List.mem_append_left _ (List.mem_append_left _ (List.mem_append_right _ h))))
theorem pz_X2_bring_X2_bring_r1 : ∀ x ∈ wsX2_bring_r1, x ∈ wsX2_bring := fun _ h => (List.mem_cons_of_mem _ (List.mem_append_left _ (List.mem_append_left _ (List.mem_append_left _ h))))
theorem pz_X2_bring_X40 : ∀ x ∈ wsX40, x ∈ wsX2_bring := fun _ h => (List.mem_cons_of_mem _ (List.mem_append_right _ h))
theorem pz_X2_bring_X20 : ∀ x ∈ wsX20, x ∈ wsX2_bring := fun _ h => (List.mem_cons_of_mem _ (List.mem_append_left _ (List.mem_append_right _ h)))
theorem pz_X2_clearOf_X40 : ∀ x ∈ wsX40, x ∈ wsX2_clearOf := fun _ h => (List.mem_cons_of_mem _ (List.mem_append_left _ (List.mem_append_right _ h)))
theorem dX0_restart_0 : decode cX0_restart 0 = .ok (.aload_n 0, 1) := by decide +kernel
theorem dX0_restart_1 : decode cX0_restart 1 = .ok (.iload_n 1, 1) := by decide +kernel
theorem dX0_restart_2 : decode cX0_restart 2 = .ok (.putfield 25, 3) := by decide +kernel
theorem dX0_restart_5 : decode cX0_restart 5 = .ok (.aload_n 0, 1) := by decide +kernel
theorem dX0_restart_6 : decode cX0_restart 6 = .ok (.iconst 0, 1) := by decide +kernel
theorem dX0_restart_7 : decode cX0_restart 7 = .ok (.putfield 21, 3) := by decide +kernel
theorem dX0_restart_10 : decode cX0_restart 10 = .ok (.return_, 1) := by decide +kernel
set_option maxRecDepth 20000 in
theorem ggX0_refuse_X0_restart : GoodIn wsX0_refuse wsX0_restart := goodIn_sub (gi_c 6 rfl (gi_a (gi_c 7 rfl (gi_c 8 rfl gi_n)) pz_X0_refuse_X00)) (by decide +kernel)
set_option maxRecDepth 20000 in
theorem gX0_refuse_X0_restart : GoodIn wsX0_refuse (wsV RX0 44 RX0 yX0_restart wsX0_restart) := goodIn_app (goodIn_of _ (by decide +kernel)) ggX0_refuse_X0_restart
theorem dX0_refuse_0 : decode cX0_refuse 0 = .ok (.aload_n 0, 1) := by decide +kernel
theorem dX0_refuse_1 : decode cX0_refuse 1 = .ok (.iconst 0, 1) := by decide +kernel
theorem dX0_refuse_2 : decode cX0_refuse 2 = .ok (.invokevirtual 44, 3) := by decide +kernel
theorem dX0_refuse_5 : decode cX0_refuse 5 = .ok (.aload_n 0, 1) := by decide +kernel
theorem dX0_refuse_6 : decode cX0_refuse 6 = .ok (.iconst 0, 1) := by decide +kernel
theorem dX0_refuse_7 : decode cX0_refuse 7 = .ok (.putfield 31, 3) := by decide +kernel
theorem dX0_refuse_10 : decode cX0_refuse 10 = .ok (.return_, 1) := by decide +kernel
theorem dX0_addRow_0 : decode cX0_addRow 0 = .ok (.aload_n 0, 1) := by decide +kernel
theorem dX0_addRow_1 : decode cX0_addRow 1 = .ok (.getfield 21, 3) := by decide +kernel
theorem dX0_addRow_4 : decode cX0_addRow 4 = .ok (.aload_n 0, 1) := by decide +kernel
theorem dX0_addRow_5 : decode cX0_addRow 5 = .ok (.getfield 15, 3) := by decide +kernel
theorem dX0_addRow_8 : decode cX0_addRow 8 = .ok (.arraylength, 1) := by decide +kernel
theorem dX0_addRow_9 : decode cX0_addRow 9 = .ok (.if_icmp .ge 23, 3) := by decide +kernel
theorem dX0_addRow_12 : decode cX0_addRow 12 = .ok (.aload_n 0, 1) := by decide +kernel
theorem dX0_addRow_13 : decode cX0_addRow 13 = .ok (.getfield 15, 3) := by decide +kernel
theorem dX0_addRow_16 : decode cX0_addRow 16 = .ok (.aload_n 0, 1) := by decide +kernel
theorem dX0_addRow_17 : decode cX0_addRow 17 = .ok (.getfield 21, 3) := by decide +kernel
theorem dX0_addRow_20 : decode cX0_addRow 20 = .ok (.iload_n 1, 1) := by decide +kernel
theorem dX0_addRow_21 : decode cX0_addRow 21 = .ok (.iastore, 1) := by decide +kernel
theorem dX0_addRow_22 : decode cX0_addRow 22 = .ok (.aload_n 0, 1) := by decide +kernel
theorem dX0_addRow_23 : decode cX0_addRow 23 = .ok (.dup, 1) := by decide +kernel
theorem dX0_addRow_24 : decode cX0_addRow 24 = .ok (.getfield 21, 3) := by decide +kernel
theorem dX0_addRow_27 : decode cX0_addRow 27 = .ok (.iconst 1, 1) := by decide +kernel
theorem dX0_addRow_28 : decode cX0_addRow 28 = .ok (.iadd, 1) := by decide +kernel
theorem dX0_addRow_29 : decode cX0_addRow 29 = .ok (.putfield 21, 3) := by decide +kernel
theorem dX0_addRow_32 : decode cX0_addRow 32 = .ok (.return_, 1) := by decide +kernel
set_option maxRecDepth 20000 in
theorem ggX0_findFirst_J7_fill_fda19 : GoodIn wsX0_findFirst wsJ7_fill_fda19 := goodIn_sub (gi_c 7 rfl (gi_c 8 rfl (gi_c 9 rfl (gi_c 6 rfl (gi_c 10 rfl gi_n))))) (by decide +kernel)
set_option maxRecDepth 20000 in
theorem gX0_findFirst_J7_fill_fda19 : GoodIn wsX0_findFirst (va_wsS RX0 48 yJ7_fill_fda19 wsJ7_fill_fda19) := goodIn_app (goodIn_of _ (by decide +kernel)) ggX0_findFirst_J7_fill_fda19
set_option maxRecDepth 20000 in
theorem ggX0_findFirst_X0_seatsRest : GoodIn wsX0_findFirst wsX0_seatsRest := goodIn_sub (gi_c 14 rfl (gi_a (gi_c 2 rfl (gi_c 1 rfl (gi_c 15 rfl (gi_c 16 rfl (gi_c 17 rfl (gi_c 18 rfl (gi_c 13 rfl (gi_c 19 rfl (gi_c 20 rfl (gi_c 21 rfl (gi_c 22 rfl (gi_c 23 rfl (gi_c 24 rfl (gi_c 11 rfl (gi_c 12 rfl gi_n))))))))))))))) pz_X0_findFirst_X00)) (by decide +kernel)
set_option maxRecDepth 20000 in
theorem gX0_findFirst_X0_seatsRest : GoodIn wsX0_findFirst (va_wsS RX0 54 yX0_seatsRest wsX0_seatsRest) := goodIn_app (goodIn_of _ (by decide +kernel)) ggX0_findFirst_X0_seatsRest
theorem dX0_findFirst_0 : decode cX0_findFirst 0 = .ok (.aload_n 0, 1) := by decide +kernel
theorem dX0_findFirst_1 : decode cX0_findFirst 1 = .ok (.getfield 38, 3) := by decide +kernel
theorem dX0_findFirst_4 : decode cX0_findFirst 4 = .ok (.iconst 0, 1) := by decide +kernel
theorem dX0_findFirst_5 : decode cX0_findFirst 5 = .ok (.iconst 1, 1) := by decide +kernel
theorem dX0_findFirst_6 : decode cX0_findFirst 6 = .ok (.aload_n 0, 1) := by decide +kernel
theorem dX0_findFirst_7 : decode cX0_findFirst 7 = .ok (.getfield 25, 3) := by decide +kernel
theorem dX0_findFirst_10 : decode cX0_findFirst 10 = .ok (.ishl, 1) := by decide +kernel
theorem dX0_findFirst_11 : decode cX0_findFirst 11 = .ok (.iconst 0, 1) := by decide +kernel
theorem dX0_findFirst_12 : decode cX0_findFirst 12 = .ok (.invokestatic 48, 3) := by decide +kernel
theorem dX0_findFirst_15 : decode cX0_findFirst 15 = .ok (.aload_n 0, 1) := by decide +kernel
theorem dX0_findFirst_16 : decode cX0_findFirst 16 = .ok (.aload_n 0, 1) := by decide +kernel
theorem dX0_findFirst_17 : decode cX0_findFirst 17 = .ok (.iconst 0, 1) := by decide +kernel
theorem dX0_findFirst_18 : decode cX0_findFirst 18 = .ok (.iconst 0, 1) := by decide +kernel
theorem dX0_findFirst_19 : decode cX0_findFirst 19 = .ok (.invokestatic 54, 3) := by decide +kernel
theorem dX0_findFirst_22 : decode cX0_findFirst 22 = .ok (.putfield 31, 3) := by decide +kernel
theorem dX0_findFirst_25 : decode cX0_findFirst 25 = .ok (.return_, 1) := by decide +kernel
set_option maxRecDepth 20000 in
theorem ggX0_seatsRest_X0_mayCome : GoodIn wsX0_seatsRest wsX0_mayCome := goodIn_sub (gi_c 8 rfl (gi_a (gi_c 1 rfl (gi_c 9 rfl (gi_c 10 rfl gi_n))) pz_X0_seatsRest_X00)) (by decide +kernel)
set_option maxRecDepth 20000 in
theorem gX0_seatsRest_X0_mayCome : GoodIn wsX0_seatsRest (wsV RX0 58 RX0 yX0_mayCome wsX0_mayCome) := goodIn_app (goodIn_of _ (by decide +kernel)) ggX0_seatsRest_X0_mayCome
set_option maxRecDepth 20000 in
theorem ggX0_seatsRest_X11_in : GoodIn wsX0_seatsRest wsX11_in := goodIn_sub (gi_c 13 rfl gi_n) (by decide +kernel)
set_option maxRecDepth 20000 in
theorem gX0_seatsRest_X11_in_n62 : GoodIn wsX0_seatsRest (wsX11_in) := ggX0_seatsRest_X11_in
set_option maxRecDepth 20000 in
theorem ggX0_seatsRest_X0_seatsRest : GoodIn wsX0_seatsRest wsX0_seatsRest := goodIn_sub (gi_c 0 rfl (gi_a (gi_c 1 rfl (gi_c 2 rfl (gi_c 3 rfl (gi_c 4 rfl (gi_c 5 rfl (gi_c 6 rfl (gi_c 7 rfl (gi_c 8 rfl (gi_c 9 rfl (gi_c 10 rfl (gi_c 11 rfl (gi_c 12 rfl (gi_c 13 rfl (gi_c 14 rfl (gi_c 15 rfl gi_n))))))))))))))) pz_X0_seatsRest_X00)) (by decide +kernel)
set_option maxRecDepth 20000 in
theorem gX0_seatsRest_X0_seatsRest : GoodIn wsX0_seatsRest (va_wsS RX0 54 yX0_seatsRest wsX0_seatsRest) := goodIn_app (goodIn_of _ (by decide +kernel)) ggX0_seatsRest_X0_seatsRest
theorem dX0_seatsRest_0 : decode cX0_seatsRest 0 = .ok (.iload_n 2, 1) := by decide +kernel
theorem dX0_seatsRest_1 : decode cX0_seatsRest 1 = .ok (.aload_n 0, 1) := by decide +kernel
theorem dX0_seatsRest_2 : decode cX0_seatsRest 2 = .ok (.getfield 25, 3) := by decide +kernel
theorem dX0_seatsRest_5 : decode cX0_seatsRest 5 = .ok (.if_icmp .lt 5, 3) := by decide +kernel
theorem dX0_seatsRest_8 : decode cX0_seatsRest 8 = .ok (.iconst 1, 1) := by decide +kernel
theorem dX0_seatsRest_9 : decode cX0_seatsRest 9 = .ok (.ireturn, 1) := by decide +kernel
theorem dX0_seatsRest_10 : decode cX0_seatsRest 10 = .ok (.aload_n 0, 1) := by decide +kernel
theorem dX0_seatsRest_11 : decode cX0_seatsRest 11 = .ok (.getfield 38, 3) := by decide +kernel
theorem dX0_seatsRest_14 : decode cX0_seatsRest 14 = .ok (.iload_n 1, 1) := by decide +kernel
theorem dX0_seatsRest_15 : decode cX0_seatsRest 15 = .ok (.iaload, 1) := by decide +kernel
theorem dX0_seatsRest_16 : decode cX0_seatsRest 16 = .ok (.iconst 1, 1) := by decide +kernel
theorem dX0_seatsRest_17 : decode cX0_seatsRest 17 = .ok (.if_icmp .ne 5, 3) := by decide +kernel
theorem dX0_seatsRest_20 : decode cX0_seatsRest 20 = .ok (.iconst 0, 1) := by decide +kernel
theorem dX0_seatsRest_21 : decode cX0_seatsRest 21 = .ok (.ireturn, 1) := by decide +kernel
theorem dX0_seatsRest_22 : decode cX0_seatsRest 22 = .ok (.aload_n 0, 1) := by decide +kernel
theorem dX0_seatsRest_23 : decode cX0_seatsRest 23 = .ok (.iload_n 1, 1) := by decide +kernel
theorem dX0_seatsRest_24 : decode cX0_seatsRest 24 = .ok (.invokevirtual 58, 3) := by decide +kernel
theorem dX0_seatsRest_27 : decode cX0_seatsRest 27 = .ok (.istore_n 3, 1) := by decide +kernel
theorem dX0_seatsRest_28 : decode cX0_seatsRest 28 = .ok (.iconst 0, 1) := by decide +kernel
theorem dX0_seatsRest_29 : decode cX0_seatsRest 29 = .ok (.istore 4, 2) := by decide +kernel
theorem dX0_seatsRest_31 : decode cX0_seatsRest 31 = .ok (.iload 4, 2) := by decide +kernel
theorem dX0_seatsRest_33 : decode cX0_seatsRest 33 = .ok (.aload_n 0, 1) := by decide +kernel
theorem dX0_seatsRest_34 : decode cX0_seatsRest 34 = .ok (.getfield 25, 3) := by decide +kernel
theorem dX0_seatsRest_37 : decode cX0_seatsRest 37 = .ok (.if_icmp .ge 44, 3) := by decide +kernel
theorem dX0_seatsRest_40 : decode cX0_seatsRest 40 = .ok (.iload_n 3, 1) := by decide +kernel
theorem dX0_seatsRest_41 : decode cX0_seatsRest 41 = .ok (.iload 4, 2) := by decide +kernel
theorem dX0_seatsRest_43 : decode cX0_seatsRest 43 = .ok (.invokestatic 62, 3) := by decide +kernel
theorem dX0_seatsRest_46 : decode cX0_seatsRest 46 = .ok (.ifCond .eq 29, 3) := by decide +kernel
theorem dX0_seatsRest_49 : decode cX0_seatsRest 49 = .ok (.aload_n 0, 1) := by decide +kernel
theorem dX0_seatsRest_50 : decode cX0_seatsRest 50 = .ok (.getfield 41, 3) := by decide +kernel
theorem dX0_seatsRest_53 : decode cX0_seatsRest 53 = .ok (.iload_n 2, 1) := by decide +kernel
theorem dX0_seatsRest_54 : decode cX0_seatsRest 54 = .ok (.iload 4, 2) := by decide +kernel
theorem dX0_seatsRest_56 : decode cX0_seatsRest 56 = .ok (.iastore, 1) := by decide +kernel
theorem dX0_seatsRest_57 : decode cX0_seatsRest 57 = .ok (.aload_n 0, 1) := by decide +kernel
theorem dX0_seatsRest_58 : decode cX0_seatsRest 58 = .ok (.iload_n 1, 1) := by decide +kernel
theorem dX0_seatsRest_59 : decode cX0_seatsRest 59 = .ok (.iconst 1, 1) := by decide +kernel
theorem dX0_seatsRest_60 : decode cX0_seatsRest 60 = .ok (.iload 4, 2) := by decide +kernel
theorem dX0_seatsRest_62 : decode cX0_seatsRest 62 = .ok (.ishl, 1) := by decide +kernel
theorem dX0_seatsRest_63 : decode cX0_seatsRest 63 = .ok (.ior, 1) := by decide +kernel
theorem dX0_seatsRest_64 : decode cX0_seatsRest 64 = .ok (.iload_n 2, 1) := by decide +kernel
theorem dX0_seatsRest_65 : decode cX0_seatsRest 65 = .ok (.iconst 1, 1) := by decide +kernel
theorem dX0_seatsRest_66 : decode cX0_seatsRest 66 = .ok (.iadd, 1) := by decide +kernel
theorem dX0_seatsRest_67 : decode cX0_seatsRest 67 = .ok (.invokestatic 54, 3) := by decide +kernel
theorem dX0_seatsRest_70 : decode cX0_seatsRest 70 = .ok (.ifCond .eq 5, 3) := by decide +kernel
theorem dX0_seatsRest_73 : decode cX0_seatsRest 73 = .ok (.iconst 1, 1) := by decide +kernel
theorem dX0_seatsRest_74 : decode cX0_seatsRest 74 = .ok (.ireturn, 1) := by decide +kernel
theorem dX0_seatsRest_75 : decode cX0_seatsRest 75 = .ok (.iinc 4 1, 3) := by decide +kernel
theorem dX0_seatsRest_78 : decode cX0_seatsRest 78 = .ok (.goto (-47), 3) := by decide +kernel
theorem dX0_seatsRest_81 : decode cX0_seatsRest 81 = .ok (.aload_n 0, 1) := by decide +kernel
theorem dX0_seatsRest_82 : decode cX0_seatsRest 82 = .ok (.getfield 38, 3) := by decide +kernel
theorem dX0_seatsRest_85 : decode cX0_seatsRest 85 = .ok (.iload_n 1, 1) := by decide +kernel
theorem dX0_seatsRest_86 : decode cX0_seatsRest 86 = .ok (.iconst 1, 1) := by decide +kernel
theorem dX0_seatsRest_87 : decode cX0_seatsRest 87 = .ok (.iastore, 1) := by decide +kernel
theorem dX0_seatsRest_88 : decode cX0_seatsRest 88 = .ok (.iconst 0, 1) := by decide +kernel
theorem dX0_seatsRest_89 : decode cX0_seatsRest 89 = .ok (.ireturn, 1) := by decide +kernel
theorem dX0_mayCome_0 : decode cX0_mayCome 0 = .ok (.iconst 1, 1) := by decide +kernel
theorem dX0_mayCome_1 : decode cX0_mayCome 1 = .ok (.aload_n 0, 1) := by decide +kernel
theorem dX0_mayCome_2 : decode cX0_mayCome 2 = .ok (.getfield 25, 3) := by decide +kernel
theorem dX0_mayCome_5 : decode cX0_mayCome 5 = .ok (.ishl, 1) := by decide +kernel
theorem dX0_mayCome_6 : decode cX0_mayCome 6 = .ok (.iconst 1, 1) := by decide +kernel
theorem dX0_mayCome_7 : decode cX0_mayCome 7 = .ok (.isub, 1) := by decide +kernel
theorem dX0_mayCome_8 : decode cX0_mayCome 8 = .ok (.iload_n 1, 1) := by decide +kernel
theorem dX0_mayCome_9 : decode cX0_mayCome 9 = .ok (.iconst (-1), 1) := by decide +kernel
theorem dX0_mayCome_10 : decode cX0_mayCome 10 = .ok (.ixor, 1) := by decide +kernel
theorem dX0_mayCome_11 : decode cX0_mayCome 11 = .ok (.iand, 1) := by decide +kernel
theorem dX0_mayCome_12 : decode cX0_mayCome 12 = .ok (.istore_n 2, 1) := by decide +kernel
theorem dX0_mayCome_13 : decode cX0_mayCome 13 = .ok (.iconst 0, 1) := by decide +kernel
theorem dX0_mayCome_14 : decode cX0_mayCome 14 = .ok (.istore_n 3, 1) := by decide +kernel
theorem dX0_mayCome_15 : decode cX0_mayCome 15 = .ok (.iload_n 3, 1) := by decide +kernel
theorem dX0_mayCome_16 : decode cX0_mayCome 16 = .ok (.aload_n 0, 1) := by decide +kernel
theorem dX0_mayCome_17 : decode cX0_mayCome 17 = .ok (.getfield 21, 3) := by decide +kernel
theorem dX0_mayCome_20 : decode cX0_mayCome 20 = .ok (.if_icmp .ge 42, 3) := by decide +kernel
theorem dX0_mayCome_23 : decode cX0_mayCome 23 = .ok (.aload_n 0, 1) := by decide +kernel
theorem dX0_mayCome_24 : decode cX0_mayCome 24 = .ok (.getfield 15, 3) := by decide +kernel
theorem dX0_mayCome_27 : decode cX0_mayCome 27 = .ok (.iload_n 3, 1) := by decide +kernel
theorem dX0_mayCome_28 : decode cX0_mayCome 28 = .ok (.iaload, 1) := by decide +kernel
theorem dX0_mayCome_29 : decode cX0_mayCome 29 = .ok (.iload_n 1, 1) := by decide +kernel
theorem dX0_mayCome_30 : decode cX0_mayCome 30 = .ok (.iand, 1) := by decide +kernel
theorem dX0_mayCome_31 : decode cX0_mayCome 31 = .ok (.ifCond .eq 25, 3) := by decide +kernel
theorem dX0_mayCome_34 : decode cX0_mayCome 34 = .ok (.aload_n 0, 1) := by decide +kernel
theorem dX0_mayCome_35 : decode cX0_mayCome 35 = .ok (.getfield 15, 3) := by decide +kernel
theorem dX0_mayCome_38 : decode cX0_mayCome 38 = .ok (.iload_n 3, 1) := by decide +kernel
theorem dX0_mayCome_39 : decode cX0_mayCome 39 = .ok (.iaload, 1) := by decide +kernel
theorem dX0_mayCome_40 : decode cX0_mayCome 40 = .ok (.iload_n 1, 1) := by decide +kernel
theorem dX0_mayCome_41 : decode cX0_mayCome 41 = .ok (.iconst (-1), 1) := by decide +kernel
theorem dX0_mayCome_42 : decode cX0_mayCome 42 = .ok (.ixor, 1) := by decide +kernel
theorem dX0_mayCome_43 : decode cX0_mayCome 43 = .ok (.iand, 1) := by decide +kernel
theorem dX0_mayCome_44 : decode cX0_mayCome 44 = .ok (.ifCond .eq 12, 3) := by decide +kernel
theorem dX0_mayCome_47 : decode cX0_mayCome 47 = .ok (.iload_n 2, 1) := by decide +kernel
theorem dX0_mayCome_48 : decode cX0_mayCome 48 = .ok (.aload_n 0, 1) := by decide +kernel
theorem dX0_mayCome_49 : decode cX0_mayCome 49 = .ok (.getfield 15, 3) := by decide +kernel
theorem dX0_mayCome_52 : decode cX0_mayCome 52 = .ok (.iload_n 3, 1) := by decide +kernel
theorem dX0_mayCome_53 : decode cX0_mayCome 53 = .ok (.iaload, 1) := by decide +kernel
theorem dX0_mayCome_54 : decode cX0_mayCome 54 = .ok (.iand, 1) := by decide +kernel
theorem dX0_mayCome_55 : decode cX0_mayCome 55 = .ok (.istore_n 2, 1) := by decide +kernel
theorem dX0_mayCome_56 : decode cX0_mayCome 56 = .ok (.iinc 3 1, 3) := by decide +kernel
theorem dX0_mayCome_59 : decode cX0_mayCome 59 = .ok (.goto (-44), 3) := by decide +kernel
theorem dX0_mayCome_62 : decode cX0_mayCome 62 = .ok (.iload_n 2, 1) := by decide +kernel
theorem dX0_mayCome_63 : decode cX0_mayCome 63 = .ok (.ireturn, 1) := by decide +kernel
set_option maxRecDepth 20000 in
theorem ggX0_countWays_J7_fill_fda19 : GoodIn wsX0_countWays wsJ7_fill_fda19 := goodIn_sub (gi_c 7 rfl (gi_c 8 rfl (gi_c 9 rfl (gi_c 6 rfl (gi_c 10 rfl gi_n))))) (by decide +kernel)
set_option maxRecDepth 20000 in
theorem gX0_countWays_J7_fill_fda19 : GoodIn wsX0_countWays (va_wsS RX0 48 yJ7_fill_fda19 wsJ7_fill_fda19) := goodIn_app (goodIn_of _ (by decide +kernel)) ggX0_countWays_J7_fill_fda19
set_option maxRecDepth 20000 in
theorem ggX0_countWays_X0_mayCome : GoodIn wsX0_countWays wsX0_mayCome := goodIn_sub (gi_c 15 rfl (gi_a (gi_c 1 rfl (gi_c 16 rfl (gi_c 17 rfl gi_n))) pz_X0_countWays_X00)) (by decide +kernel)
set_option maxRecDepth 20000 in
theorem gX0_countWays_X0_mayCome : GoodIn wsX0_countWays (wsV RX0 58 RX0 yX0_mayCome wsX0_mayCome) := goodIn_app (goodIn_of _ (by decide +kernel)) ggX0_countWays_X0_mayCome
set_option maxRecDepth 20000 in
theorem ggX0_countWays_X11_in : GoodIn wsX0_countWays wsX11_in := goodIn_sub (gi_c 20 rfl gi_n) (by decide +kernel)
set_option maxRecDepth 20000 in
theorem gX0_countWays_X11_in_n62 : GoodIn wsX0_countWays (wsX11_in) := ggX0_countWays_X11_in
theorem dX0_countWays_0 : decode cX0_countWays 0 = .ok (.iconst 1, 1) := by decide +kernel
theorem dX0_countWays_1 : decode cX0_countWays 1 = .ok (.aload_n 0, 1) := by decide +kernel
theorem dX0_countWays_2 : decode cX0_countWays 2 = .ok (.getfield 25, 3) := by decide +kernel
theorem dX0_countWays_5 : decode cX0_countWays 5 = .ok (.ishl, 1) := by decide +kernel
theorem dX0_countWays_6 : decode cX0_countWays 6 = .ok (.iconst 1, 1) := by decide +kernel
theorem dX0_countWays_7 : decode cX0_countWays 7 = .ok (.isub, 1) := by decide +kernel
theorem dX0_countWays_8 : decode cX0_countWays 8 = .ok (.istore_n 1, 1) := by decide +kernel
theorem dX0_countWays_9 : decode cX0_countWays 9 = .ok (.aload_n 0, 1) := by decide +kernel
theorem dX0_countWays_10 : decode cX0_countWays 10 = .ok (.getfield 38, 3) := by decide +kernel
theorem dX0_countWays_13 : decode cX0_countWays 13 = .ok (.iconst 0, 1) := by decide +kernel
theorem dX0_countWays_14 : decode cX0_countWays 14 = .ok (.iload_n 1, 1) := by decide +kernel
theorem dX0_countWays_15 : decode cX0_countWays 15 = .ok (.iconst 1, 1) := by decide +kernel
theorem dX0_countWays_16 : decode cX0_countWays 16 = .ok (.iadd, 1) := by decide +kernel
theorem dX0_countWays_17 : decode cX0_countWays 17 = .ok (.iconst 0, 1) := by decide +kernel
theorem dX0_countWays_18 : decode cX0_countWays 18 = .ok (.invokestatic 48, 3) := by decide +kernel
theorem dX0_countWays_21 : decode cX0_countWays 21 = .ok (.aload_n 0, 1) := by decide +kernel
theorem dX0_countWays_22 : decode cX0_countWays 22 = .ok (.getfield 38, 3) := by decide +kernel
theorem dX0_countWays_25 : decode cX0_countWays 25 = .ok (.iconst 0, 1) := by decide +kernel
theorem dX0_countWays_26 : decode cX0_countWays 26 = .ok (.iconst 1, 1) := by decide +kernel
theorem dX0_countWays_27 : decode cX0_countWays 27 = .ok (.iastore, 1) := by decide +kernel
theorem dX0_countWays_28 : decode cX0_countWays 28 = .ok (.iconst 0, 1) := by decide +kernel
theorem dX0_countWays_29 : decode cX0_countWays 29 = .ok (.istore_n 2, 1) := by decide +kernel
theorem dX0_countWays_30 : decode cX0_countWays 30 = .ok (.iload_n 2, 1) := by decide +kernel
theorem dX0_countWays_31 : decode cX0_countWays 31 = .ok (.iload_n 1, 1) := by decide +kernel
theorem dX0_countWays_32 : decode cX0_countWays 32 = .ok (.if_icmp .ge 75, 3) := by decide +kernel
theorem dX0_countWays_35 : decode cX0_countWays 35 = .ok (.aload_n 0, 1) := by decide +kernel
theorem dX0_countWays_36 : decode cX0_countWays 36 = .ok (.getfield 38, 3) := by decide +kernel
theorem dX0_countWays_39 : decode cX0_countWays 39 = .ok (.iload_n 2, 1) := by decide +kernel
theorem dX0_countWays_40 : decode cX0_countWays 40 = .ok (.iaload, 1) := by decide +kernel
theorem dX0_countWays_41 : decode cX0_countWays 41 = .ok (.ifCond .ne 7, 3) := by decide +kernel
theorem dX0_countWays_44 : decode cX0_countWays 44 = .ok (.iconst 0, 1) := by decide +kernel
theorem dX0_countWays_45 : decode cX0_countWays 45 = .ok (.goto 8, 3) := by decide +kernel
theorem dX0_countWays_48 : decode cX0_countWays 48 = .ok (.aload_n 0, 1) := by decide +kernel
theorem dX0_countWays_49 : decode cX0_countWays 49 = .ok (.iload_n 2, 1) := by decide +kernel
theorem dX0_countWays_50 : decode cX0_countWays 50 = .ok (.invokevirtual 58, 3) := by decide +kernel
theorem dX0_countWays_53 : decode cX0_countWays 53 = .ok (.istore_n 3, 1) := by decide +kernel
theorem dX0_countWays_54 : decode cX0_countWays 54 = .ok (.iconst 0, 1) := by decide +kernel
theorem dX0_countWays_55 : decode cX0_countWays 55 = .ok (.istore 4, 2) := by decide +kernel
theorem dX0_countWays_57 : decode cX0_countWays 57 = .ok (.iload 4, 2) := by decide +kernel
theorem dX0_countWays_59 : decode cX0_countWays 59 = .ok (.aload_n 0, 1) := by decide +kernel
theorem dX0_countWays_60 : decode cX0_countWays 60 = .ok (.getfield 25, 3) := by decide +kernel
theorem dX0_countWays_63 : decode cX0_countWays 63 = .ok (.if_icmp .ge 38, 3) := by decide +kernel
theorem dX0_countWays_66 : decode cX0_countWays 66 = .ok (.iload_n 3, 1) := by decide +kernel
theorem dX0_countWays_67 : decode cX0_countWays 67 = .ok (.iload 4, 2) := by decide +kernel
theorem dX0_countWays_69 : decode cX0_countWays 69 = .ok (.invokestatic 62, 3) := by decide +kernel
theorem dX0_countWays_72 : decode cX0_countWays 72 = .ok (.ifCond .eq 23, 3) := by decide +kernel
theorem dX0_countWays_75 : decode cX0_countWays 75 = .ok (.aload_n 0, 1) := by decide +kernel
theorem dX0_countWays_76 : decode cX0_countWays 76 = .ok (.getfield 38, 3) := by decide +kernel
theorem dX0_countWays_79 : decode cX0_countWays 79 = .ok (.iload_n 2, 1) := by decide +kernel
theorem dX0_countWays_80 : decode cX0_countWays 80 = .ok (.iconst 1, 1) := by decide +kernel
theorem dX0_countWays_81 : decode cX0_countWays 81 = .ok (.iload 4, 2) := by decide +kernel
theorem dX0_countWays_83 : decode cX0_countWays 83 = .ok (.ishl, 1) := by decide +kernel
theorem dX0_countWays_84 : decode cX0_countWays 84 = .ok (.ior, 1) := by decide +kernel
theorem dX0_countWays_85 : decode cX0_countWays 85 = .ok (.dup2, 1) := by decide +kernel
theorem dX0_countWays_86 : decode cX0_countWays 86 = .ok (.iaload, 1) := by decide +kernel
theorem dX0_countWays_87 : decode cX0_countWays 87 = .ok (.aload_n 0, 1) := by decide +kernel
theorem dX0_countWays_88 : decode cX0_countWays 88 = .ok (.getfield 38, 3) := by decide +kernel
theorem dX0_countWays_91 : decode cX0_countWays 91 = .ok (.iload_n 2, 1) := by decide +kernel
theorem dX0_countWays_92 : decode cX0_countWays 92 = .ok (.iaload, 1) := by decide +kernel
theorem dX0_countWays_93 : decode cX0_countWays 93 = .ok (.iadd, 1) := by decide +kernel
theorem dX0_countWays_94 : decode cX0_countWays 94 = .ok (.iastore, 1) := by decide +kernel
theorem dX0_countWays_95 : decode cX0_countWays 95 = .ok (.iinc 4 1, 3) := by decide +kernel
theorem dX0_countWays_98 : decode cX0_countWays 98 = .ok (.goto (-41), 3) := by decide +kernel
theorem dX0_countWays_101 : decode cX0_countWays 101 = .ok (.iinc 2 1, 3) := by decide +kernel
theorem dX0_countWays_104 : decode cX0_countWays 104 = .ok (.goto (-74), 3) := by decide +kernel
theorem dX0_countWays_107 : decode cX0_countWays 107 = .ok (.aload_n 0, 1) := by decide +kernel
theorem dX0_countWays_108 : decode cX0_countWays 108 = .ok (.aload_n 0, 1) := by decide +kernel
theorem dX0_countWays_109 : decode cX0_countWays 109 = .ok (.getfield 38, 3) := by decide +kernel
theorem dX0_countWays_112 : decode cX0_countWays 112 = .ok (.iload_n 1, 1) := by decide +kernel
theorem dX0_countWays_113 : decode cX0_countWays 113 = .ok (.iaload, 1) := by decide +kernel
theorem dX0_countWays_114 : decode cX0_countWays 114 = .ok (.putfield 28, 3) := by decide +kernel
theorem dX0_countWays_117 : decode cX0_countWays 117 = .ok (.return_, 1) := by decide +kernel
set_option maxRecDepth 20000 in
theorem ggX0_firstOf_X11_in : GoodIn wsX0_firstOf wsX11_in := goodIn_sub (gi_c 6 rfl gi_n) (by decide +kernel)
set_option maxRecDepth 20000 in
theorem gX0_firstOf_X11_in_n62 : GoodIn wsX0_firstOf (wsX11_in) := ggX0_firstOf_X11_in
theorem dX0_firstOf_0 : decode cX0_firstOf 0 = .ok (.iconst 0, 1) := by decide +kernel
theorem dX0_firstOf_1 : decode cX0_firstOf 1 = .ok (.istore_n 2, 1) := by decide +kernel
theorem dX0_firstOf_2 : decode cX0_firstOf 2 = .ok (.iload_n 2, 1) := by decide +kernel
theorem dX0_firstOf_3 : decode cX0_firstOf 3 = .ok (.aload_n 0, 1) := by decide +kernel
theorem dX0_firstOf_4 : decode cX0_firstOf 4 = .ok (.getfield 25, 3) := by decide +kernel
theorem dX0_firstOf_7 : decode cX0_firstOf 7 = .ok (.if_icmp .ge 29, 3) := by decide +kernel
theorem dX0_firstOf_10 : decode cX0_firstOf 10 = .ok (.aload_n 0, 1) := by decide +kernel
theorem dX0_firstOf_11 : decode cX0_firstOf 11 = .ok (.getfield 15, 3) := by decide +kernel
theorem dX0_firstOf_14 : decode cX0_firstOf 14 = .ok (.iload_n 1, 1) := by decide +kernel
theorem dX0_firstOf_15 : decode cX0_firstOf 15 = .ok (.iaload, 1) := by decide +kernel
theorem dX0_firstOf_16 : decode cX0_firstOf 16 = .ok (.aload_n 0, 1) := by decide +kernel
theorem dX0_firstOf_17 : decode cX0_firstOf 17 = .ok (.getfield 41, 3) := by decide +kernel
theorem dX0_firstOf_20 : decode cX0_firstOf 20 = .ok (.iload_n 2, 1) := by decide +kernel
theorem dX0_firstOf_21 : decode cX0_firstOf 21 = .ok (.iaload, 1) := by decide +kernel
theorem dX0_firstOf_22 : decode cX0_firstOf 22 = .ok (.invokestatic 62, 3) := by decide +kernel
theorem dX0_firstOf_25 : decode cX0_firstOf 25 = .ok (.ifCond .eq 5, 3) := by decide +kernel
theorem dX0_firstOf_28 : decode cX0_firstOf 28 = .ok (.iload_n 2, 1) := by decide +kernel
theorem dX0_firstOf_29 : decode cX0_firstOf 29 = .ok (.ireturn, 1) := by decide +kernel
theorem dX0_firstOf_30 : decode cX0_firstOf 30 = .ok (.iinc 2 1, 3) := by decide +kernel
theorem dX0_firstOf_33 : decode cX0_firstOf 33 = .ok (.goto (-31), 3) := by decide +kernel
theorem dX0_firstOf_36 : decode cX0_firstOf 36 = .ok (.bipush (-9), 2) := by decide +kernel
theorem dX0_firstOf_38 : decode cX0_firstOf 38 = .ok (.ireturn, 1) := by decide +kernel
set_option maxRecDepth 20000 in
theorem ggX0_lastOf_X11_in : GoodIn wsX0_lastOf wsX11_in := goodIn_sub (gi_c 6 rfl gi_n) (by decide +kernel)
set_option maxRecDepth 20000 in
theorem gX0_lastOf_X11_in_n62 : GoodIn wsX0_lastOf (wsX11_in) := ggX0_lastOf_X11_in
theorem dX0_lastOf_0 : decode cX0_lastOf 0 = .ok (.bipush (-9), 2) := by decide +kernel
theorem dX0_lastOf_2 : decode cX0_lastOf 2 = .ok (.istore_n 2, 1) := by decide +kernel
theorem dX0_lastOf_3 : decode cX0_lastOf 3 = .ok (.iconst 0, 1) := by decide +kernel
theorem dX0_lastOf_4 : decode cX0_lastOf 4 = .ok (.istore_n 3, 1) := by decide +kernel
theorem dX0_lastOf_5 : decode cX0_lastOf 5 = .ok (.iload_n 3, 1) := by decide +kernel
theorem dX0_lastOf_6 : decode cX0_lastOf 6 = .ok (.aload_n 0, 1) := by decide +kernel
theorem dX0_lastOf_7 : decode cX0_lastOf 7 = .ok (.getfield 25, 3) := by decide +kernel
theorem dX0_lastOf_10 : decode cX0_lastOf 10 = .ok (.if_icmp .ge 29, 3) := by decide +kernel
theorem dX0_lastOf_13 : decode cX0_lastOf 13 = .ok (.aload_n 0, 1) := by decide +kernel
theorem dX0_lastOf_14 : decode cX0_lastOf 14 = .ok (.getfield 15, 3) := by decide +kernel
theorem dX0_lastOf_17 : decode cX0_lastOf 17 = .ok (.iload_n 1, 1) := by decide +kernel
theorem dX0_lastOf_18 : decode cX0_lastOf 18 = .ok (.iaload, 1) := by decide +kernel
theorem dX0_lastOf_19 : decode cX0_lastOf 19 = .ok (.aload_n 0, 1) := by decide +kernel
theorem dX0_lastOf_20 : decode cX0_lastOf 20 = .ok (.getfield 41, 3) := by decide +kernel
theorem dX0_lastOf_23 : decode cX0_lastOf 23 = .ok (.iload_n 3, 1) := by decide +kernel
theorem dX0_lastOf_24 : decode cX0_lastOf 24 = .ok (.iaload, 1) := by decide +kernel
theorem dX0_lastOf_25 : decode cX0_lastOf 25 = .ok (.invokestatic 62, 3) := by decide +kernel
theorem dX0_lastOf_28 : decode cX0_lastOf 28 = .ok (.ifCond .eq 5, 3) := by decide +kernel
theorem dX0_lastOf_31 : decode cX0_lastOf 31 = .ok (.iload_n 3, 1) := by decide +kernel
theorem dX0_lastOf_32 : decode cX0_lastOf 32 = .ok (.istore_n 2, 1) := by decide +kernel
theorem dX0_lastOf_33 : decode cX0_lastOf 33 = .ok (.iinc 3 1, 3) := by decide +kernel
theorem dX0_lastOf_36 : decode cX0_lastOf 36 = .ok (.goto (-31), 3) := by decide +kernel
theorem dX0_lastOf_39 : decode cX0_lastOf 39 = .ok (.iload_n 2, 1) := by decide +kernel
theorem dX0_lastOf_40 : decode cX0_lastOf 40 = .ok (.ireturn, 1) := by decide +kernel
theorem dX1_has_0 : decode cX1_has 0 = .ok (.iload_n 1, 1) := by decide +kernel
theorem dX1_has_1 : decode cX1_has 1 = .ok (.ifCond .lt 15, 3) := by decide +kernel
theorem dX1_has_4 : decode cX1_has 4 = .ok (.iload_n 1, 1) := by decide +kernel
theorem dX1_has_5 : decode cX1_has 5 = .ok (.aload_n 0, 1) := by decide +kernel
theorem dX1_has_6 : decode cX1_has 6 = .ok (.getfield 24, 3) := by decide +kernel
theorem dX1_has_9 : decode cX1_has 9 = .ok (.if_icmp .ge 7, 3) := by decide +kernel
theorem dX1_has_12 : decode cX1_has 12 = .ok (.iconst 1, 1) := by decide +kernel
theorem dX1_has_13 : decode cX1_has 13 = .ok (.goto 4, 3) := by decide +kernel
theorem dX1_has_16 : decode cX1_has 16 = .ok (.iconst 0, 1) := by decide +kernel
theorem dX1_has_17 : decode cX1_has 17 = .ok (.ireturn, 1) := by decide +kernel
set_option maxRecDepth 20000 in
theorem ggX1_bring_X4_all : GoodIn wsX1_bring wsX4_all := goodIn_sub (gi_t pz_X1_bring_X1_bring_r1 7 rfl (gi_a (gi_t pz_X1_bring_X1_bring_r1 8 rfl gi_n) pz_X1_bring_X40)) (by decide +kernel)
set_option maxRecDepth 20000 in
theorem gX1_bring_X4_all_n44 : GoodIn wsX1_bring (wsX4_all) := ggX1_bring_X4_all
set_option maxRecDepth 20000 in
theorem ggX1_bring_X1_gather : GoodIn wsX1_bring wsX1_gather := goodIn_sub (gi_t pz_X1_bring_X1_bring_r1 12 rfl (gi_a (gi_t pz_X1_bring_X1_bring_r1 2 rfl (gi_t pz_X1_bring_X1_bring_r1 13 rfl (gi_t pz_X1_bring_X1_bring_r1 14 rfl (gi_t pz_X1_bring_X1_bring_r1 15 rfl (gi_t pz_X1_bring_X1_bring_r1 11 rfl (gi_t pz_X1_bring_X1_bring_r1 16 rfl (gi_t pz_X1_bring_X1_bring_r1 17 rfl (gi_t pz_X1_bring_X1_bring_r1 18 rfl (gi_t pz_X1_bring_X1_bring_r1 19 rfl (gi_t pz_X1_bring_X1_bring_r1 20 rfl (gi_t pz_X1_bring_X1_bring_r1 21 rfl (gi_t pz_X1_bring_X1_bring_r1 22 rfl (gi_t pz_X1_bring_X1_bring_r1 23 rfl (gi_t pz_X1_bring_X1_bring_r1 1 rfl (gi_t pz_X1_bring_X1_bring_r2 0 rfl (gi_t pz_X1_bring_X1_bring_r2 1 rfl (gi_t pz_X1_bring_X1_bring_r2 2 rfl (gi_t pz_X1_bring_X1_bring_r2 3 rfl (gi_t pz_X1_bring_X1_bring_r2 4 rfl (gi_t pz_X1_bring_X1_bring_r2 5 rfl (gi_t pz_X1_bring_X1_bring_r1 9 rfl (gi_t pz_X1_bring_X1_bring_r1 10 rfl gi_n)))))))))))))))))))))) pz_X1_bring_X10)) (by decide +kernel)
set_option maxRecDepth 20000 in
theorem gX1_bring_X1_gather : GoodIn wsX1_bring (va_wsS RX1 49 yX1_gather wsX1_gather) := goodIn_app (goodIn_of _ (by decide +kernel)) ggX1_bring_X1_gather
theorem dX1_bring_0 : decode cX1_bring 0 = .ok (.aload_n 0, 1) := by decide +kernel
theorem dX1_bring_1 : decode cX1_bring 1 = .ok (.getfield 28, 3) := by decide +kernel
theorem dX1_bring_4 : decode cX1_bring 4 = .ok (.aload_n 1, 1) := by decide +kernel
theorem dX1_bring_5 : decode cX1_bring 5 = .ok (.getfield 38, 3) := by decide +kernel
theorem dX1_bring_8 : decode cX1_bring 8 = .ok (.if_icmp .ne 4, 3) := by decide +kernel
theorem dX1_bring_11 : decode cX1_bring 11 = .ok (.return_, 1) := by decide +kernel
theorem dX1_bring_12 : decode cX1_bring 12 = .ok (.aload_n 0, 1) := by decide +kernel
theorem dX1_bring_13 : decode cX1_bring 13 = .ok (.aload_n 1, 1) := by decide +kernel
theorem dX1_bring_14 : decode cX1_bring 14 = .ok (.getfield 38, 3) := by decide +kernel
theorem dX1_bring_17 : decode cX1_bring 17 = .ok (.putfield 28, 3) := by decide +kernel
theorem dX1_bring_20 : decode cX1_bring 20 = .ok (.aload_n 0, 1) := by decide +kernel
theorem dX1_bring_21 : decode cX1_bring 21 = .ok (.iconst 0, 1) := by decide +kernel
theorem dX1_bring_22 : decode cX1_bring 22 = .ok (.putfield 24, 3) := by decide +kernel
theorem dX1_bring_25 : decode cX1_bring 25 = .ok (.iconst 0, 1) := by decide +kernel
theorem dX1_bring_26 : decode cX1_bring 26 = .ok (.istore_n 2, 1) := by decide +kernel
theorem dX1_bring_27 : decode cX1_bring 27 = .ok (.iload_n 2, 1) := by decide +kernel
theorem dX1_bring_28 : decode cX1_bring 28 = .ok (.aload_n 1, 1) := by decide +kernel
theorem dX1_bring_29 : decode cX1_bring 29 = .ok (.getfield 43, 3) := by decide +kernel
theorem dX1_bring_32 : decode cX1_bring 32 = .ok (.if_icmp .ge 50, 3) := by decide +kernel
theorem dX1_bring_35 : decode cX1_bring 35 = .ok (.aload_n 0, 1) := by decide +kernel
theorem dX1_bring_36 : decode cX1_bring 36 = .ok (.getfield 9, 3) := by decide +kernel
theorem dX1_bring_39 : decode cX1_bring 39 = .ok (.iload_n 2, 1) := by decide +kernel
theorem dX1_bring_40 : decode cX1_bring 40 = .ok (.aload_n 0, 1) := by decide +kernel
theorem dX1_bring_41 : decode cX1_bring 41 = .ok (.getfield 34, 3) := by decide +kernel
theorem dX1_bring_44 : decode cX1_bring 44 = .ok (.ifCond .eq 25, 3) := by decide +kernel
theorem dX1_bring_47 : decode cX1_bring 47 = .ok (.aload_n 1, 1) := by decide +kernel
theorem dX1_bring_48 : decode cX1_bring 48 = .ok (.invokevirtual 44, 3) := by decide +kernel
theorem dX1_bring_51 : decode cX1_bring 51 = .ok (.aload_n 1, 1) := by decide +kernel
theorem dX1_bring_52 : decode cX1_bring 52 = .ok (.getfield 48, 3) := by decide +kernel
theorem dX1_bring_55 : decode cX1_bring 55 = .ok (.iload_n 2, 1) := by decide +kernel
theorem dX1_bring_56 : decode cX1_bring 56 = .ok (.iaload, 1) := by decide +kernel
theorem dX1_bring_57 : decode cX1_bring 57 = .ok (.iconst (-1), 1) := by decide +kernel
theorem dX1_bring_58 : decode cX1_bring 58 = .ok (.ixor, 1) := by decide +kernel
theorem dX1_bring_59 : decode cX1_bring 59 = .ok (.iand, 1) := by decide +kernel
theorem dX1_bring_60 : decode cX1_bring 60 = .ok (.iconst 1, 1) := by decide +kernel
theorem dX1_bring_61 : decode cX1_bring 61 = .ok (.iload_n 2, 1) := by decide +kernel
theorem dX1_bring_62 : decode cX1_bring 62 = .ok (.ishl, 1) := by decide +kernel
theorem dX1_bring_63 : decode cX1_bring 63 = .ok (.iconst (-1), 1) := by decide +kernel
theorem dX1_bring_64 : decode cX1_bring 64 = .ok (.ixor, 1) := by decide +kernel
theorem dX1_bring_65 : decode cX1_bring 65 = .ok (.iand, 1) := by decide +kernel
theorem dX1_bring_66 : decode cX1_bring 66 = .ok (.goto 9, 3) := by decide +kernel
theorem dX1_bring_69 : decode cX1_bring 69 = .ok (.aload_n 1, 1) := by decide +kernel
theorem dX1_bring_70 : decode cX1_bring 70 = .ok (.getfield 48, 3) := by decide +kernel
theorem dX1_bring_73 : decode cX1_bring 73 = .ok (.iload_n 2, 1) := by decide +kernel
theorem dX1_bring_74 : decode cX1_bring 74 = .ok (.iaload, 1) := by decide +kernel
theorem dX1_bring_75 : decode cX1_bring 75 = .ok (.iastore, 1) := by decide +kernel
theorem dX1_bring_76 : decode cX1_bring 76 = .ok (.iinc 2 1, 3) := by decide +kernel
theorem dX1_bring_79 : decode cX1_bring 79 = .ok (.goto (-52), 3) := by decide +kernel
theorem dX1_bring_82 : decode cX1_bring 82 = .ok (.aload_n 0, 1) := by decide +kernel
theorem dX1_bring_83 : decode cX1_bring 83 = .ok (.iconst 0, 1) := by decide +kernel
theorem dX1_bring_84 : decode cX1_bring 84 = .ok (.aload_n 1, 1) := by decide +kernel
theorem dX1_bring_85 : decode cX1_bring 85 = .ok (.invokevirtual 44, 3) := by decide +kernel
theorem dX1_bring_88 : decode cX1_bring 88 = .ok (.iconst 0, 1) := by decide +kernel
theorem dX1_bring_89 : decode cX1_bring 89 = .ok (.iconst 0, 1) := by decide +kernel
theorem dX1_bring_90 : decode cX1_bring 90 = .ok (.invokestatic 49, 3) := by decide +kernel
theorem dX1_bring_93 : decode cX1_bring 93 = .ok (.return_, 1) := by decide +kernel
set_option maxRecDepth 20000 in
theorem ggX1_gather_X1_canNotBeGreat : GoodIn wsX1_gather wsX1_canNotBeGreat := goodIn_sub (gi_c 6 rfl (gi_a (gi_c 1 rfl (gi_c 7 rfl (gi_c 8 rfl (gi_c 9 rfl gi_n)))) pz_X1_gather_X10)) (by decide +kernel)
set_option maxRecDepth 20000 in
theorem gX1_gather_X1_canNotBeGreat : GoodIn wsX1_gather (wsV RX1 53 RX1 yX1_canNotBeGreat wsX1_canNotBeGreat) := goodIn_app (goodIn_of _ (by decide +kernel)) ggX1_gather_X1_canNotBeGreat
set_option maxRecDepth 20000 in
theorem ggX1_gather_X1_keep : GoodIn wsX1_gather wsX1_keep := goodIn_sub (gi_c 13 rfl (gi_a (gi_c 14 rfl (gi_c 15 rfl gi_n)) pz_X1_gather_X10)) (by decide +kernel)
set_option maxRecDepth 20000 in
theorem gX1_gather_X1_keep : GoodIn wsX1_gather (wsV RX1 57 RX1 yX1_keep wsX1_keep) := goodIn_app (goodIn_of _ (by decide +kernel)) ggX1_gather_X1_keep
set_option maxRecDepth 20000 in
theorem ggX1_gather_J6_numberOfLeadingZeros_0f7a4 : GoodIn wsX1_gather wsJ6_numberOfLeadingZeros_0f7a4 := goodIn_sub (gi_c 19 rfl (gi_c 20 rfl gi_n)) (by decide +kernel)
set_option maxRecDepth 20000 in
theorem gX1_gather_J6_numberOfLeadingZeros_0f7a4 : GoodIn wsX1_gather (va_wsS RX1 61 yJ6_numberOfLeadingZeros_0f7a4 wsJ6_numberOfLeadingZeros_0f7a4) := goodIn_app (goodIn_of _ (by decide +kernel)) ggX1_gather_J6_numberOfLeadingZeros_0f7a4
set_option maxRecDepth 20000 in
theorem ggX1_gather_X1_gather : GoodIn wsX1_gather wsX1_gather := goodIn_sub (gi_c 0 rfl (gi_a (gi_c 1 rfl (gi_c 2 rfl (gi_c 3 rfl (gi_c 4 rfl (gi_c 5 rfl (gi_c 6 rfl (gi_c 7 rfl (gi_c 8 rfl (gi_c 9 rfl (gi_c 10 rfl (gi_c 11 rfl (gi_c 12 rfl (gi_c 13 rfl (gi_c 14 rfl (gi_c 15 rfl (gi_c 16 rfl (gi_c 17 rfl (gi_c 18 rfl (gi_c 19 rfl (gi_c 20 rfl (gi_c 21 rfl (gi_c 22 rfl gi_n)))))))))))))))))))))) pz_X1_gather_X10)) (by decide +kernel)
set_option maxRecDepth 20000 in
theorem gX1_gather_X1_gather : GoodIn wsX1_gather (va_wsS RX1 49 yX1_gather wsX1_gather) := goodIn_app (goodIn_of _ (by decide +kernel)) ggX1_gather_X1_gather
theorem dX1_gather_0 : decode cX1_gather 0 = .ok (.iload 4, 2) := by decide +kernel
theorem dX1_gather_2 : decode cX1_gather 2 = .ok (.bipush 12, 2) := by decide +kernel
theorem dX1_gather_4 : decode cX1_gather 4 = .ok (.if_icmp .gt 12, 3) := by decide +kernel
theorem dX1_gather_7 : decode cX1_gather 7 = .ok (.aload_n 0, 1) := by decide +kernel
theorem dX1_gather_8 : decode cX1_gather 8 = .ok (.iload_n 2, 1) := by decide +kernel
theorem dX1_gather_9 : decode cX1_gather 9 = .ok (.iload_n 3, 1) := by decide +kernel
theorem dX1_gather_10 : decode cX1_gather 10 = .ok (.invokevirtual 53, 3) := by decide +kernel
theorem dX1_gather_13 : decode cX1_gather 13 = .ok (.ifCond .eq 4, 3) := by decide +kernel
theorem dX1_gather_16 : decode cX1_gather 16 = .ok (.return_, 1) := by decide +kernel
theorem dX1_gather_17 : decode cX1_gather 17 = .ok (.iload_n 2, 1) := by decide +kernel
theorem dX1_gather_18 : decode cX1_gather 18 = .ok (.ifCond .ne 9, 3) := by decide +kernel
theorem dX1_gather_21 : decode cX1_gather 21 = .ok (.aload_n 0, 1) := by decide +kernel
theorem dX1_gather_22 : decode cX1_gather 22 = .ok (.iload_n 1, 1) := by decide +kernel
theorem dX1_gather_23 : decode cX1_gather 23 = .ok (.invokevirtual 57, 3) := by decide +kernel
theorem dX1_gather_26 : decode cX1_gather 26 = .ok (.return_, 1) := by decide +kernel
theorem dX1_gather_27 : decode cX1_gather 27 = .ok (.bipush 31, 2) := by decide +kernel
theorem dX1_gather_29 : decode cX1_gather 29 = .ok (.iload_n 2, 1) := by decide +kernel
theorem dX1_gather_30 : decode cX1_gather 30 = .ok (.invokestatic 61, 3) := by decide +kernel
theorem dX1_gather_33 : decode cX1_gather 33 = .ok (.isub, 1) := by decide +kernel
theorem dX1_gather_34 : decode cX1_gather 34 = .ok (.istore 5, 2) := by decide +kernel
theorem dX1_gather_36 : decode cX1_gather 36 = .ok (.iload_n 2, 1) := by decide +kernel
theorem dX1_gather_37 : decode cX1_gather 37 = .ok (.iconst 1, 1) := by decide +kernel
theorem dX1_gather_38 : decode cX1_gather 38 = .ok (.iload 5, 2) := by decide +kernel
theorem dX1_gather_40 : decode cX1_gather 40 = .ok (.ishl, 1) := by decide +kernel
theorem dX1_gather_41 : decode cX1_gather 41 = .ok (.iconst (-1), 1) := by decide +kernel
theorem dX1_gather_42 : decode cX1_gather 42 = .ok (.ixor, 1) := by decide +kernel
theorem dX1_gather_43 : decode cX1_gather 43 = .ok (.iand, 1) := by decide +kernel
theorem dX1_gather_44 : decode cX1_gather 44 = .ok (.istore 6, 2) := by decide +kernel
theorem dX1_gather_46 : decode cX1_gather 46 = .ok (.aload_n 0, 1) := by decide +kernel
theorem dX1_gather_47 : decode cX1_gather 47 = .ok (.iload_n 1, 1) := by decide +kernel
theorem dX1_gather_48 : decode cX1_gather 48 = .ok (.iload 6, 2) := by decide +kernel
theorem dX1_gather_50 : decode cX1_gather 50 = .ok (.iload_n 3, 1) := by decide +kernel
theorem dX1_gather_51 : decode cX1_gather 51 = .ok (.iconst 1, 1) := by decide +kernel
theorem dX1_gather_52 : decode cX1_gather 52 = .ok (.iload 5, 2) := by decide +kernel
theorem dX1_gather_54 : decode cX1_gather 54 = .ok (.ishl, 1) := by decide +kernel
theorem dX1_gather_55 : decode cX1_gather 55 = .ok (.ior, 1) := by decide +kernel
theorem dX1_gather_56 : decode cX1_gather 56 = .ok (.iload 4, 2) := by decide +kernel
theorem dX1_gather_58 : decode cX1_gather 58 = .ok (.iconst 1, 1) := by decide +kernel
theorem dX1_gather_59 : decode cX1_gather 59 = .ok (.iadd, 1) := by decide +kernel
theorem dX1_gather_60 : decode cX1_gather 60 = .ok (.invokestatic 49, 3) := by decide +kernel
theorem dX1_gather_63 : decode cX1_gather 63 = .ok (.aload_n 0, 1) := by decide +kernel
theorem dX1_gather_64 : decode cX1_gather 64 = .ok (.iload_n 1, 1) := by decide +kernel
theorem dX1_gather_65 : decode cX1_gather 65 = .ok (.iconst 1, 1) := by decide +kernel
theorem dX1_gather_66 : decode cX1_gather 66 = .ok (.iload 5, 2) := by decide +kernel
theorem dX1_gather_68 : decode cX1_gather 68 = .ok (.ishl, 1) := by decide +kernel
theorem dX1_gather_69 : decode cX1_gather 69 = .ok (.ior, 1) := by decide +kernel
theorem dX1_gather_70 : decode cX1_gather 70 = .ok (.iload 6, 2) := by decide +kernel
theorem dX1_gather_72 : decode cX1_gather 72 = .ok (.aload_n 0, 1) := by decide +kernel
theorem dX1_gather_73 : decode cX1_gather 73 = .ok (.getfield 9, 3) := by decide +kernel
theorem dX1_gather_76 : decode cX1_gather 76 = .ok (.iload 5, 2) := by decide +kernel
theorem dX1_gather_78 : decode cX1_gather 78 = .ok (.iaload, 1) := by decide +kernel
theorem dX1_gather_79 : decode cX1_gather 79 = .ok (.iand, 1) := by decide +kernel
theorem dX1_gather_80 : decode cX1_gather 80 = .ok (.iload_n 3, 1) := by decide +kernel
theorem dX1_gather_81 : decode cX1_gather 81 = .ok (.aload_n 0, 1) := by decide +kernel
theorem dX1_gather_82 : decode cX1_gather 82 = .ok (.getfield 9, 3) := by decide +kernel
theorem dX1_gather_85 : decode cX1_gather 85 = .ok (.iload 5, 2) := by decide +kernel
theorem dX1_gather_87 : decode cX1_gather 87 = .ok (.iaload, 1) := by decide +kernel
theorem dX1_gather_88 : decode cX1_gather 88 = .ok (.iand, 1) := by decide +kernel
theorem dX1_gather_89 : decode cX1_gather 89 = .ok (.iload 4, 2) := by decide +kernel
theorem dX1_gather_91 : decode cX1_gather 91 = .ok (.iconst 1, 1) := by decide +kernel
theorem dX1_gather_92 : decode cX1_gather 92 = .ok (.iadd, 1) := by decide +kernel
theorem dX1_gather_93 : decode cX1_gather 93 = .ok (.invokestatic 49, 3) := by decide +kernel
theorem dX1_gather_96 : decode cX1_gather 96 = .ok (.return_, 1) := by decide +kernel
set_option maxRecDepth 20000 in
theorem ggX1_canNotBeGreat_X11_in : GoodIn wsX1_canNotBeGreat wsX11_in := goodIn_sub (gi_c 4 rfl gi_n) (by decide +kernel)
set_option maxRecDepth 20000 in
theorem gX1_canNotBeGreat_X11_in_n67 : GoodIn wsX1_canNotBeGreat (wsX11_in) := ggX1_canNotBeGreat_X11_in
theorem dX1_canNotBeGreat_0 : decode cX1_canNotBeGreat 0 = .ok (.iconst 0, 1) := by decide +kernel
theorem dX1_canNotBeGreat_1 : decode cX1_canNotBeGreat 1 = .ok (.istore_n 3, 1) := by decide +kernel
theorem dX1_canNotBeGreat_2 : decode cX1_canNotBeGreat 2 = .ok (.iload_n 3, 1) := by decide +kernel
theorem dX1_canNotBeGreat_3 : decode cX1_canNotBeGreat 3 = .ok (.bipush 12, 2) := by decide +kernel
theorem dX1_canNotBeGreat_5 : decode cX1_canNotBeGreat 5 = .ok (.if_icmp .ge 32, 3) := by decide +kernel
theorem dX1_canNotBeGreat_8 : decode cX1_canNotBeGreat 8 = .ok (.iload_n 2, 1) := by decide +kernel
theorem dX1_canNotBeGreat_9 : decode cX1_canNotBeGreat 9 = .ok (.iload_n 3, 1) := by decide +kernel
theorem dX1_canNotBeGreat_10 : decode cX1_canNotBeGreat 10 = .ok (.invokestatic 67, 3) := by decide +kernel
theorem dX1_canNotBeGreat_13 : decode cX1_canNotBeGreat 13 = .ok (.ifCond .eq 18, 3) := by decide +kernel
theorem dX1_canNotBeGreat_16 : decode cX1_canNotBeGreat 16 = .ok (.iload_n 1, 1) := by decide +kernel
theorem dX1_canNotBeGreat_17 : decode cX1_canNotBeGreat 17 = .ok (.aload_n 0, 1) := by decide +kernel
theorem dX1_canNotBeGreat_18 : decode cX1_canNotBeGreat 18 = .ok (.getfield 9, 3) := by decide +kernel
theorem dX1_canNotBeGreat_21 : decode cX1_canNotBeGreat 21 = .ok (.iload_n 3, 1) := by decide +kernel
theorem dX1_canNotBeGreat_22 : decode cX1_canNotBeGreat 22 = .ok (.iaload, 1) := by decide +kernel
theorem dX1_canNotBeGreat_23 : decode cX1_canNotBeGreat 23 = .ok (.iconst (-1), 1) := by decide +kernel
theorem dX1_canNotBeGreat_24 : decode cX1_canNotBeGreat 24 = .ok (.ixor, 1) := by decide +kernel
theorem dX1_canNotBeGreat_25 : decode cX1_canNotBeGreat 25 = .ok (.iand, 1) := by decide +kernel
theorem dX1_canNotBeGreat_26 : decode cX1_canNotBeGreat 26 = .ok (.ifCond .ne 5, 3) := by decide +kernel
theorem dX1_canNotBeGreat_29 : decode cX1_canNotBeGreat 29 = .ok (.iconst 1, 1) := by decide +kernel
theorem dX1_canNotBeGreat_30 : decode cX1_canNotBeGreat 30 = .ok (.ireturn, 1) := by decide +kernel
theorem dX1_canNotBeGreat_31 : decode cX1_canNotBeGreat 31 = .ok (.iinc 3 1, 3) := by decide +kernel
theorem dX1_canNotBeGreat_34 : decode cX1_canNotBeGreat 34 = .ok (.goto (-32), 3) := by decide +kernel
theorem dX1_canNotBeGreat_37 : decode cX1_canNotBeGreat 37 = .ok (.iconst 0, 1) := by decide +kernel
theorem dX1_canNotBeGreat_38 : decode cX1_canNotBeGreat 38 = .ok (.ireturn, 1) := by decide +kernel
theorem dX1_keep_0 : decode cX1_keep 0 = .ok (.iload_n 1, 1) := by decide +kernel
theorem dX1_keep_1 : decode cX1_keep 1 = .ok (.ifCond .eq 32, 3) := by decide +kernel
theorem dX1_keep_4 : decode cX1_keep 4 = .ok (.aload_n 0, 1) := by decide +kernel
theorem dX1_keep_5 : decode cX1_keep 5 = .ok (.getfield 24, 3) := by decide +kernel
theorem dX1_keep_8 : decode cX1_keep 8 = .ok (.bipush 81, 2) := by decide +kernel
theorem dX1_keep_10 : decode cX1_keep 10 = .ok (.if_icmp .ge 23, 3) := by decide +kernel
theorem dX1_keep_13 : decode cX1_keep 13 = .ok (.aload_n 0, 1) := by decide +kernel
theorem dX1_keep_14 : decode cX1_keep 14 = .ok (.getfield 15, 3) := by decide +kernel
theorem dX1_keep_17 : decode cX1_keep 17 = .ok (.aload_n 0, 1) := by decide +kernel
theorem dX1_keep_18 : decode cX1_keep 18 = .ok (.getfield 24, 3) := by decide +kernel
theorem dX1_keep_21 : decode cX1_keep 21 = .ok (.iload_n 1, 1) := by decide +kernel
theorem dX1_keep_22 : decode cX1_keep 22 = .ok (.iastore, 1) := by decide +kernel
theorem dX1_keep_23 : decode cX1_keep 23 = .ok (.aload_n 0, 1) := by decide +kernel
theorem dX1_keep_24 : decode cX1_keep 24 = .ok (.dup, 1) := by decide +kernel
theorem dX1_keep_25 : decode cX1_keep 25 = .ok (.getfield 24, 3) := by decide +kernel
theorem dX1_keep_28 : decode cX1_keep 28 = .ok (.iconst 1, 1) := by decide +kernel
theorem dX1_keep_29 : decode cX1_keep 29 = .ok (.iadd, 1) := by decide +kernel
theorem dX1_keep_30 : decode cX1_keep 30 = .ok (.putfield 24, 3) := by decide +kernel
theorem dX1_keep_33 : decode cX1_keep 33 = .ok (.return_, 1) := by decide +kernel
set_option maxRecDepth 20000 in
theorem ggX1_widest_J6_bitCount_0f7a4 : GoodIn wsX1_widest wsJ6_bitCount_0f7a4 := goodIn_sub (gi_c 6 rfl (gi_c 7 rfl (gi_c 8 rfl (gi_c 9 rfl gi_n)))) (by decide +kernel)
set_option maxRecDepth 20000 in
theorem gX1_widest_J6_bitCount_0f7a4 : GoodIn wsX1_widest (va_wsS RX1 70 yJ6_bitCount_0f7a4 wsJ6_bitCount_0f7a4) := goodIn_app (goodIn_of _ (by decide +kernel)) ggX1_widest_J6_bitCount_0f7a4
theorem dX1_widest_0 : decode cX1_widest 0 = .ok (.iconst 0, 1) := by decide +kernel
theorem dX1_widest_1 : decode cX1_widest 1 = .ok (.istore_n 1, 1) := by decide +kernel
theorem dX1_widest_2 : decode cX1_widest 2 = .ok (.iconst 0, 1) := by decide +kernel
theorem dX1_widest_3 : decode cX1_widest 3 = .ok (.istore_n 2, 1) := by decide +kernel
theorem dX1_widest_4 : decode cX1_widest 4 = .ok (.iload_n 2, 1) := by decide +kernel
theorem dX1_widest_5 : decode cX1_widest 5 = .ok (.aload_n 0, 1) := by decide +kernel
theorem dX1_widest_6 : decode cX1_widest 6 = .ok (.getfield 24, 3) := by decide +kernel
theorem dX1_widest_9 : decode cX1_widest 9 = .ok (.if_icmp .ge 32, 3) := by decide +kernel
theorem dX1_widest_12 : decode cX1_widest 12 = .ok (.aload_n 0, 1) := by decide +kernel
theorem dX1_widest_13 : decode cX1_widest 13 = .ok (.getfield 15, 3) := by decide +kernel
theorem dX1_widest_16 : decode cX1_widest 16 = .ok (.iload_n 2, 1) := by decide +kernel
theorem dX1_widest_17 : decode cX1_widest 17 = .ok (.iaload, 1) := by decide +kernel
theorem dX1_widest_18 : decode cX1_widest 18 = .ok (.invokestatic 70, 3) := by decide +kernel
theorem dX1_widest_21 : decode cX1_widest 21 = .ok (.iload_n 1, 1) := by decide +kernel
theorem dX1_widest_22 : decode cX1_widest 22 = .ok (.invokestatic 70, 3) := by decide +kernel
theorem dX1_widest_25 : decode cX1_widest 25 = .ok (.if_icmp .le 10, 3) := by decide +kernel
theorem dX1_widest_28 : decode cX1_widest 28 = .ok (.aload_n 0, 1) := by decide +kernel
theorem dX1_widest_29 : decode cX1_widest 29 = .ok (.getfield 15, 3) := by decide +kernel
theorem dX1_widest_32 : decode cX1_widest 32 = .ok (.iload_n 2, 1) := by decide +kernel
theorem dX1_widest_33 : decode cX1_widest 33 = .ok (.iaload, 1) := by decide +kernel
theorem dX1_widest_34 : decode cX1_widest 34 = .ok (.istore_n 1, 1) := by decide +kernel
theorem dX1_widest_35 : decode cX1_widest 35 = .ok (.iinc 2 1, 3) := by decide +kernel
theorem dX1_widest_38 : decode cX1_widest 38 = .ok (.goto (-34), 3) := by decide +kernel
theorem dX1_widest_41 : decode cX1_widest 41 = .ok (.iload_n 1, 1) := by decide +kernel
theorem dX1_widest_42 : decode cX1_widest 42 = .ok (.ireturn, 1) := by decide +kernel
set_option maxRecDepth 20000 in
theorem ggX1_with_X11_in : GoodIn wsX1_with wsX11_in := goodIn_sub (gi_c 5 rfl gi_n) (by decide +kernel)
set_option maxRecDepth 20000 in
theorem gX1_with_X11_in_n67 : GoodIn wsX1_with (wsX11_in) := ggX1_with_X11_in
theorem dX1_with_0 : decode cX1_with 0 = .ok (.iconst 0, 1) := by decide +kernel
theorem dX1_with_1 : decode cX1_with 1 = .ok (.istore_n 2, 1) := by decide +kernel
theorem dX1_with_2 : decode cX1_with 2 = .ok (.iconst 0, 1) := by decide +kernel
theorem dX1_with_3 : decode cX1_with 3 = .ok (.istore_n 3, 1) := by decide +kernel
theorem dX1_with_4 : decode cX1_with 4 = .ok (.iload_n 3, 1) := by decide +kernel
theorem dX1_with_5 : decode cX1_with 5 = .ok (.aload_n 0, 1) := by decide +kernel
theorem dX1_with_6 : decode cX1_with 6 = .ok (.getfield 24, 3) := by decide +kernel
theorem dX1_with_9 : decode cX1_with 9 = .ok (.if_icmp .ge 34, 3) := by decide +kernel
theorem dX1_with_12 : decode cX1_with 12 = .ok (.iload_n 3, 1) := by decide +kernel
theorem dX1_with_13 : decode cX1_with 13 = .ok (.bipush 12, 2) := by decide +kernel
theorem dX1_with_15 : decode cX1_with 15 = .ok (.if_icmp .ge 28, 3) := by decide +kernel
theorem dX1_with_18 : decode cX1_with 18 = .ok (.aload_n 0, 1) := by decide +kernel
theorem dX1_with_19 : decode cX1_with 19 = .ok (.getfield 15, 3) := by decide +kernel
theorem dX1_with_22 : decode cX1_with 22 = .ok (.iload_n 3, 1) := by decide +kernel
theorem dX1_with_23 : decode cX1_with 23 = .ok (.iaload, 1) := by decide +kernel
theorem dX1_with_24 : decode cX1_with 24 = .ok (.iload_n 1, 1) := by decide +kernel
theorem dX1_with_25 : decode cX1_with 25 = .ok (.invokestatic 67, 3) := by decide +kernel
theorem dX1_with_28 : decode cX1_with 28 = .ok (.ifCond .eq 9, 3) := by decide +kernel
theorem dX1_with_31 : decode cX1_with 31 = .ok (.iload_n 2, 1) := by decide +kernel
theorem dX1_with_32 : decode cX1_with 32 = .ok (.iconst 1, 1) := by decide +kernel
theorem dX1_with_33 : decode cX1_with 33 = .ok (.iload_n 3, 1) := by decide +kernel
theorem dX1_with_34 : decode cX1_with 34 = .ok (.ishl, 1) := by decide +kernel
theorem dX1_with_35 : decode cX1_with 35 = .ok (.ior, 1) := by decide +kernel
theorem dX1_with_36 : decode cX1_with 36 = .ok (.istore_n 2, 1) := by decide +kernel
theorem dX1_with_37 : decode cX1_with 37 = .ok (.iinc 3 1, 3) := by decide +kernel
theorem dX1_with_40 : decode cX1_with 40 = .ok (.goto (-36), 3) := by decide +kernel
theorem dX1_with_43 : decode cX1_with 43 = .ok (.iload_n 2, 1) := by decide +kernel
theorem dX1_with_44 : decode cX1_with 44 = .ok (.ireturn, 1) := by decide +kernel
set_option maxRecDepth 20000 in
theorem ggX1_bringTree_X1_tieNext : GoodIn wsX1_bringTree wsX1_tieNext := goodIn_sub (gi_c 10 rfl (gi_a (gi_c 5 rfl (gi_c 11 rfl (gi_c 3 rfl (gi_c 4 rfl (gi_c 12 rfl (gi_c 13 rfl (gi_c 14 rfl (gi_c 15 rfl (gi_c 16 rfl (gi_c 17 rfl (gi_c 18 rfl (gi_c 19 rfl (gi_c 20 rfl (gi_c 21 rfl gi_n)))))))))))))) pz_X1_bringTree_X10)) (by decide +kernel)
set_option maxRecDepth 20000 in
theorem gX1_bringTree_X1_tieNext : GoodIn wsX1_bringTree (wsV RX1 73 RX1 yX1_tieNext wsX1_tieNext) := goodIn_app (goodIn_of _ (by decide +kernel)) ggX1_bringTree_X1_tieNext
theorem dX1_bringTree_0 : decode cX1_bringTree 0 = .ok (.aload_n 0, 1) := by decide +kernel
theorem dX1_bringTree_1 : decode cX1_bringTree 1 = .ok (.getfield 31, 3) := by decide +kernel
theorem dX1_bringTree_4 : decode cX1_bringTree 4 = .ok (.aload_n 0, 1) := by decide +kernel
theorem dX1_bringTree_5 : decode cX1_bringTree 5 = .ok (.getfield 28, 3) := by decide +kernel
theorem dX1_bringTree_8 : decode cX1_bringTree 8 = .ok (.if_icmp .ne 4, 3) := by decide +kernel
theorem dX1_bringTree_11 : decode cX1_bringTree 11 = .ok (.return_, 1) := by decide +kernel
theorem dX1_bringTree_12 : decode cX1_bringTree 12 = .ok (.aload_n 0, 1) := by decide +kernel
theorem dX1_bringTree_13 : decode cX1_bringTree 13 = .ok (.aload_n 0, 1) := by decide +kernel
theorem dX1_bringTree_14 : decode cX1_bringTree 14 = .ok (.getfield 28, 3) := by decide +kernel
theorem dX1_bringTree_17 : decode cX1_bringTree 17 = .ok (.putfield 31, 3) := by decide +kernel
theorem dX1_bringTree_20 : decode cX1_bringTree 20 = .ok (.aload_n 0, 1) := by decide +kernel
theorem dX1_bringTree_21 : decode cX1_bringTree 21 = .ok (.getfield 18, 3) := by decide +kernel
theorem dX1_bringTree_24 : decode cX1_bringTree 24 = .ok (.iconst 0, 1) := by decide +kernel
theorem dX1_bringTree_25 : decode cX1_bringTree 25 = .ok (.bipush (-9), 2) := by decide +kernel
theorem dX1_bringTree_27 : decode cX1_bringTree 27 = .ok (.iastore, 1) := by decide +kernel
theorem dX1_bringTree_28 : decode cX1_bringTree 28 = .ok (.aload_n 0, 1) := by decide +kernel
theorem dX1_bringTree_29 : decode cX1_bringTree 29 = .ok (.getfield 21, 3) := by decide +kernel
theorem dX1_bringTree_32 : decode cX1_bringTree 32 = .ok (.iconst 0, 1) := by decide +kernel
theorem dX1_bringTree_33 : decode cX1_bringTree 33 = .ok (.iconst 0, 1) := by decide +kernel
theorem dX1_bringTree_34 : decode cX1_bringTree 34 = .ok (.iastore, 1) := by decide +kernel
theorem dX1_bringTree_35 : decode cX1_bringTree 35 = .ok (.iconst 1, 1) := by decide +kernel
theorem dX1_bringTree_36 : decode cX1_bringTree 36 = .ok (.istore_n 1, 1) := by decide +kernel
theorem dX1_bringTree_37 : decode cX1_bringTree 37 = .ok (.iconst 1, 1) := by decide +kernel
theorem dX1_bringTree_38 : decode cX1_bringTree 38 = .ok (.istore_n 2, 1) := by decide +kernel
theorem dX1_bringTree_39 : decode cX1_bringTree 39 = .ok (.iload_n 2, 1) := by decide +kernel
theorem dX1_bringTree_40 : decode cX1_bringTree 40 = .ok (.aload_n 0, 1) := by decide +kernel
theorem dX1_bringTree_41 : decode cX1_bringTree 41 = .ok (.getfield 24, 3) := by decide +kernel
theorem dX1_bringTree_44 : decode cX1_bringTree 44 = .ok (.if_icmp .ge 25, 3) := by decide +kernel
theorem dX1_bringTree_47 : decode cX1_bringTree 47 = .ok (.iload_n 2, 1) := by decide +kernel
theorem dX1_bringTree_48 : decode cX1_bringTree 48 = .ok (.bipush 12, 2) := by decide +kernel
theorem dX1_bringTree_50 : decode cX1_bringTree 50 = .ok (.if_icmp .ge 19, 3) := by decide +kernel
theorem dX1_bringTree_53 : decode cX1_bringTree 53 = .ok (.iload_n 1, 1) := by decide +kernel
theorem dX1_bringTree_54 : decode cX1_bringTree 54 = .ok (.iconst 1, 1) := by decide +kernel
theorem dX1_bringTree_55 : decode cX1_bringTree 55 = .ok (.aload_n 0, 1) := by decide +kernel
theorem dX1_bringTree_56 : decode cX1_bringTree 56 = .ok (.iload_n 1, 1) := by decide +kernel
theorem dX1_bringTree_57 : decode cX1_bringTree 57 = .ok (.invokevirtual 73, 3) := by decide +kernel
theorem dX1_bringTree_60 : decode cX1_bringTree 60 = .ok (.ishl, 1) := by decide +kernel
theorem dX1_bringTree_61 : decode cX1_bringTree 61 = .ok (.ior, 1) := by decide +kernel
theorem dX1_bringTree_62 : decode cX1_bringTree 62 = .ok (.istore_n 1, 1) := by decide +kernel
theorem dX1_bringTree_63 : decode cX1_bringTree 63 = .ok (.iinc 2 1, 3) := by decide +kernel
theorem dX1_bringTree_66 : decode cX1_bringTree 66 = .ok (.goto (-27), 3) := by decide +kernel
theorem dX1_bringTree_69 : decode cX1_bringTree 69 = .ok (.return_, 1) := by decide +kernel
set_option maxRecDepth 20000 in
theorem ggX1_tieNext_J6_bitCount_0f7a4 : GoodIn wsX1_tieNext wsJ6_bitCount_0f7a4 := goodIn_sub (gi_c 8 rfl (gi_c 9 rfl (gi_c 10 rfl (gi_c 11 rfl gi_n)))) (by decide +kernel)
set_option maxRecDepth 20000 in
theorem gX1_tieNext_J6_bitCount_0f7a4 : GoodIn wsX1_tieNext (va_wsS RX1 70 yJ6_bitCount_0f7a4 wsJ6_bitCount_0f7a4) := goodIn_app (goodIn_of _ (by decide +kernel)) ggX1_tieNext_J6_bitCount_0f7a4
set_option maxRecDepth 20000 in
theorem ggX1_tieNext_X11_in : GoodIn wsX1_tieNext wsX11_in := goodIn_sub (gi_c 14 rfl gi_n) (by decide +kernel)
set_option maxRecDepth 20000 in
theorem gX1_tieNext_X11_in_n67 : GoodIn wsX1_tieNext (wsX11_in) := ggX1_tieNext_X11_in
theorem dX1_tieNext_0 : decode cX1_tieNext 0 = .ok (.iconst (-1), 1) := by decide +kernel
theorem dX1_tieNext_1 : decode cX1_tieNext 1 = .ok (.istore_n 2, 1) := by decide +kernel
theorem dX1_tieNext_2 : decode cX1_tieNext 2 = .ok (.iconst 0, 1) := by decide +kernel
theorem dX1_tieNext_3 : decode cX1_tieNext 3 = .ok (.istore_n 3, 1) := by decide +kernel
theorem dX1_tieNext_4 : decode cX1_tieNext 4 = .ok (.iconst 0, 1) := by decide +kernel
theorem dX1_tieNext_5 : decode cX1_tieNext 5 = .ok (.istore 4, 2) := by decide +kernel
theorem dX1_tieNext_7 : decode cX1_tieNext 7 = .ok (.iload 4, 2) := by decide +kernel
theorem dX1_tieNext_9 : decode cX1_tieNext 9 = .ok (.aload_n 0, 1) := by decide +kernel
theorem dX1_tieNext_10 : decode cX1_tieNext 10 = .ok (.getfield 24, 3) := by decide +kernel
theorem dX1_tieNext_13 : decode cX1_tieNext 13 = .ok (.if_icmp .ge 122, 3) := by decide +kernel
theorem dX1_tieNext_16 : decode cX1_tieNext 16 = .ok (.iload 4, 2) := by decide +kernel
theorem dX1_tieNext_18 : decode cX1_tieNext 18 = .ok (.bipush 12, 2) := by decide +kernel
theorem dX1_tieNext_20 : decode cX1_tieNext 20 = .ok (.if_icmp .ge 115, 3) := by decide +kernel
theorem dX1_tieNext_23 : decode cX1_tieNext 23 = .ok (.iconst 0, 1) := by decide +kernel
theorem dX1_tieNext_24 : decode cX1_tieNext 24 = .ok (.istore 5, 2) := by decide +kernel
theorem dX1_tieNext_26 : decode cX1_tieNext 26 = .ok (.iload 5, 2) := by decide +kernel
theorem dX1_tieNext_28 : decode cX1_tieNext 28 = .ok (.aload_n 0, 1) := by decide +kernel
theorem dX1_tieNext_29 : decode cX1_tieNext 29 = .ok (.getfield 24, 3) := by decide +kernel
theorem dX1_tieNext_32 : decode cX1_tieNext 32 = .ok (.if_icmp .ge 97, 3) := by decide +kernel
theorem dX1_tieNext_35 : decode cX1_tieNext 35 = .ok (.iload 5, 2) := by decide +kernel
theorem dX1_tieNext_37 : decode cX1_tieNext 37 = .ok (.bipush 12, 2) := by decide +kernel
theorem dX1_tieNext_39 : decode cX1_tieNext 39 = .ok (.if_icmp .ge 90, 3) := by decide +kernel
theorem dX1_tieNext_42 : decode cX1_tieNext 42 = .ok (.aload_n 0, 1) := by decide +kernel
theorem dX1_tieNext_43 : decode cX1_tieNext 43 = .ok (.getfield 15, 3) := by decide +kernel
theorem dX1_tieNext_46 : decode cX1_tieNext 46 = .ok (.iload 4, 2) := by decide +kernel
theorem dX1_tieNext_48 : decode cX1_tieNext 48 = .ok (.iaload, 1) := by decide +kernel
theorem dX1_tieNext_49 : decode cX1_tieNext 49 = .ok (.aload_n 0, 1) := by decide +kernel
theorem dX1_tieNext_50 : decode cX1_tieNext 50 = .ok (.getfield 15, 3) := by decide +kernel
theorem dX1_tieNext_53 : decode cX1_tieNext 53 = .ok (.iload 5, 2) := by decide +kernel
theorem dX1_tieNext_55 : decode cX1_tieNext 55 = .ok (.iaload, 1) := by decide +kernel
theorem dX1_tieNext_56 : decode cX1_tieNext 56 = .ok (.iand, 1) := by decide +kernel
theorem dX1_tieNext_57 : decode cX1_tieNext 57 = .ok (.invokestatic 70, 3) := by decide +kernel
theorem dX1_tieNext_60 : decode cX1_tieNext 60 = .ok (.istore 6, 2) := by decide +kernel
theorem dX1_tieNext_62 : decode cX1_tieNext 62 = .ok (.iload_n 1, 1) := by decide +kernel
theorem dX1_tieNext_63 : decode cX1_tieNext 63 = .ok (.iload 4, 2) := by decide +kernel
theorem dX1_tieNext_65 : decode cX1_tieNext 65 = .ok (.invokestatic 67, 3) := by decide +kernel
theorem dX1_tieNext_68 : decode cX1_tieNext 68 = .ok (.ifCond .eq 55, 3) := by decide +kernel
theorem dX1_tieNext_71 : decode cX1_tieNext 71 = .ok (.iload_n 1, 1) := by decide +kernel
theorem dX1_tieNext_72 : decode cX1_tieNext 72 = .ok (.iload 5, 2) := by decide +kernel
theorem dX1_tieNext_74 : decode cX1_tieNext 74 = .ok (.invokestatic 67, 3) := by decide +kernel
theorem dX1_tieNext_77 : decode cX1_tieNext 77 = .ok (.ifCond .ne 46, 3) := by decide +kernel
theorem dX1_tieNext_80 : decode cX1_tieNext 80 = .ok (.iload 6, 2) := by decide +kernel
theorem dX1_tieNext_82 : decode cX1_tieNext 82 = .ok (.iload_n 2, 1) := by decide +kernel
theorem dX1_tieNext_83 : decode cX1_tieNext 83 = .ok (.if_icmp .le 40, 3) := by decide +kernel
theorem dX1_tieNext_86 : decode cX1_tieNext 86 = .ok (.iload 6, 2) := by decide +kernel
theorem dX1_tieNext_88 : decode cX1_tieNext 88 = .ok (.istore_n 2, 1) := by decide +kernel
theorem dX1_tieNext_89 : decode cX1_tieNext 89 = .ok (.iload 5, 2) := by decide +kernel
theorem dX1_tieNext_91 : decode cX1_tieNext 91 = .ok (.istore_n 3, 1) := by decide +kernel
theorem dX1_tieNext_92 : decode cX1_tieNext 92 = .ok (.aload_n 0, 1) := by decide +kernel
theorem dX1_tieNext_93 : decode cX1_tieNext 93 = .ok (.getfield 18, 3) := by decide +kernel
theorem dX1_tieNext_96 : decode cX1_tieNext 96 = .ok (.iload 5, 2) := by decide +kernel
theorem dX1_tieNext_98 : decode cX1_tieNext 98 = .ok (.iload 4, 2) := by decide +kernel
theorem dX1_tieNext_100 : decode cX1_tieNext 100 = .ok (.iastore, 1) := by decide +kernel
theorem dX1_tieNext_101 : decode cX1_tieNext 101 = .ok (.aload_n 0, 1) := by decide +kernel
theorem dX1_tieNext_102 : decode cX1_tieNext 102 = .ok (.getfield 21, 3) := by decide +kernel
theorem dX1_tieNext_105 : decode cX1_tieNext 105 = .ok (.iload 5, 2) := by decide +kernel
theorem dX1_tieNext_107 : decode cX1_tieNext 107 = .ok (.aload_n 0, 1) := by decide +kernel
theorem dX1_tieNext_108 : decode cX1_tieNext 108 = .ok (.getfield 15, 3) := by decide +kernel
theorem dX1_tieNext_111 : decode cX1_tieNext 111 = .ok (.iload 4, 2) := by decide +kernel
theorem dX1_tieNext_113 : decode cX1_tieNext 113 = .ok (.iaload, 1) := by decide +kernel
theorem dX1_tieNext_114 : decode cX1_tieNext 114 = .ok (.aload_n 0, 1) := by decide +kernel
theorem dX1_tieNext_115 : decode cX1_tieNext 115 = .ok (.getfield 15, 3) := by decide +kernel
theorem dX1_tieNext_118 : decode cX1_tieNext 118 = .ok (.iload 5, 2) := by decide +kernel
theorem dX1_tieNext_120 : decode cX1_tieNext 120 = .ok (.iaload, 1) := by decide +kernel
theorem dX1_tieNext_121 : decode cX1_tieNext 121 = .ok (.iand, 1) := by decide +kernel
theorem dX1_tieNext_122 : decode cX1_tieNext 122 = .ok (.iastore, 1) := by decide +kernel
theorem dX1_tieNext_123 : decode cX1_tieNext 123 = .ok (.iinc 5 1, 3) := by decide +kernel
theorem dX1_tieNext_126 : decode cX1_tieNext 126 = .ok (.goto (-100), 3) := by decide +kernel
theorem dX1_tieNext_129 : decode cX1_tieNext 129 = .ok (.iinc 4 1, 3) := by decide +kernel
theorem dX1_tieNext_132 : decode cX1_tieNext 132 = .ok (.goto (-125), 3) := by decide +kernel
theorem dX1_tieNext_135 : decode cX1_tieNext 135 = .ok (.iload_n 3, 1) := by decide +kernel
theorem dX1_tieNext_136 : decode cX1_tieNext 136 = .ok (.ireturn, 1) := by decide +kernel
set_option maxRecDepth 20000 in
theorem ggX2_bring_X2_clearOf : GoodIn wsX2_bring wsX2_clearOf := goodIn_sub (gi_t pz_X2_bring_X2_bring_r1 6 rfl (gi_a (gi_a (gi_t pz_X2_bring_X2_bring_r1 7 rfl (gi_t pz_X2_bring_X2_bring_r1 8 rfl (gi_t pz_X2_bring_X2_bring_r1 9 rfl (gi_t pz_X2_bring_X2_bring_r1 10 rfl (gi_t pz_X2_bring_X2_bring_r1 11 rfl (gi_t pz_X2_bring_X2_bring_r1 12 rfl (gi_t pz_X2_bring_X2_bring_r1 13 rfl (gi_t pz_X2_bring_X2_bring_r1 14 rfl (gi_t pz_X2_bring_X2_bring_r1 15 rfl (gi_t pz_X2_bring_X2_bring_r1 16 rfl (gi_t pz_X2_bring_X2_bring_r1 17 rfl (gi_t pz_X2_bring_X2_bring_r1 18 rfl (gi_t pz_X2_bring_X2_bring_r1 19 rfl (gi_t pz_X2_bring_X2_bring_r1 20 rfl (gi_t pz_X2_bring_X2_bring_r1 21 rfl (gi_t pz_X2_bring_X2_bring_r1 22 rfl (gi_t pz_X2_bring_X2_bring_r1 23 rfl (gi_t pz_X2_bring_X2_bring_r2 0 rfl (gi_t pz_X2_bring_X2_bring_r2 1 rfl (gi_t pz_X2_bring_X2_bring_r2 2 rfl (gi_t pz_X2_bring_X2_bring_r2 3 rfl (gi_t pz_X2_bring_X2_bring_r2 4 rfl (gi_t pz_X2_bring_X2_bring_r2 5 rfl gi_n))))))))))))))))))))))) pz_X2_bring_X40) pz_X2_bring_X20)) (by decide +kernel)
set_option maxRecDepth 20000 in
theorem gX2_bring_X2_clearOf : GoodIn wsX2_bring (wsV RX2 36 RX2 yX2_clearOf wsX2_clearOf) := goodIn_app (goodIn_of _ (by decide +kernel)) ggX2_bring_X2_clearOf
set_option maxRecDepth 20000 in
theorem ggX2_bring_X2_lookFor : GoodIn wsX2_bring wsX2_lookFor := goodIn_sub (gi_t pz_X2_bring_X2_bring_r2 9 rfl (gi_a (gi_t pz_X2_bring_X2_bring_r1 7 rfl (gi_t pz_X2_bring_X2_bring_r2 10 rfl (gi_t pz_X2_bring_X2_bring_r1 13 rfl (gi_t pz_X2_bring_X2_bring_r1 14 rfl (gi_t pz_X2_bring_X2_bring_r1 15 rfl gi_n))))) pz_X2_bring_X20)) (by decide +kernel)
set_option maxRecDepth 20000 in
theorem gX2_bring_X2_lookFor : GoodIn wsX2_bring (wsV RX2 40 RX2 yX2_lookFor wsX2_lookFor) := goodIn_app (goodIn_of _ (by decide +kernel)) ggX2_bring_X2_lookFor
theorem dX2_bring_0 : decode cX2_bring 0 = .ok (.aload_n 0, 1) := by decide +kernel
theorem dX2_bring_1 : decode cX2_bring 1 = .ok (.getfield 24, 3) := by decide +kernel
theorem dX2_bring_4 : decode cX2_bring 4 = .ok (.aload_n 1, 1) := by decide +kernel
theorem dX2_bring_5 : decode cX2_bring 5 = .ok (.getfield 28, 3) := by decide +kernel
theorem dX2_bring_8 : decode cX2_bring 8 = .ok (.if_icmp .ne 4, 3) := by decide +kernel
theorem dX2_bring_11 : decode cX2_bring 11 = .ok (.return_, 1) := by decide +kernel
theorem dX2_bring_12 : decode cX2_bring 12 = .ok (.aload_n 0, 1) := by decide +kernel
theorem dX2_bring_13 : decode cX2_bring 13 = .ok (.aload_n 1, 1) := by decide +kernel
theorem dX2_bring_14 : decode cX2_bring 14 = .ok (.getfield 28, 3) := by decide +kernel
theorem dX2_bring_17 : decode cX2_bring 17 = .ok (.putfield 24, 3) := by decide +kernel
theorem dX2_bring_20 : decode cX2_bring 20 = .ok (.iconst 0, 1) := by decide +kernel
theorem dX2_bring_21 : decode cX2_bring 21 = .ok (.istore_n 2, 1) := by decide +kernel
theorem dX2_bring_22 : decode cX2_bring 22 = .ok (.iload_n 2, 1) := by decide +kernel
theorem dX2_bring_23 : decode cX2_bring 23 = .ok (.aload_n 1, 1) := by decide +kernel
theorem dX2_bring_24 : decode cX2_bring 24 = .ok (.getfield 33, 3) := by decide +kernel
theorem dX2_bring_27 : decode cX2_bring 27 = .ok (.if_icmp .ge 15, 3) := by decide +kernel
theorem dX2_bring_30 : decode cX2_bring 30 = .ok (.aload_n 0, 1) := by decide +kernel
theorem dX2_bring_31 : decode cX2_bring 31 = .ok (.aload_n 1, 1) := by decide +kernel
theorem dX2_bring_32 : decode cX2_bring 32 = .ok (.iload_n 2, 1) := by decide +kernel
theorem dX2_bring_33 : decode cX2_bring 33 = .ok (.invokevirtual 36, 3) := by decide +kernel
theorem dX2_bring_36 : decode cX2_bring 36 = .ok (.iinc 2 1, 3) := by decide +kernel
theorem dX2_bring_39 : decode cX2_bring 39 = .ok (.goto (-17), 3) := by decide +kernel
theorem dX2_bring_42 : decode cX2_bring 42 = .ok (.aload_n 0, 1) := by decide +kernel
theorem dX2_bring_43 : decode cX2_bring 43 = .ok (.aload_n 0, 1) := by decide +kernel
theorem dX2_bring_44 : decode cX2_bring 44 = .ok (.aload_n 1, 1) := by decide +kernel
theorem dX2_bring_45 : decode cX2_bring 45 = .ok (.getfield 33, 3) := by decide +kernel
theorem dX2_bring_48 : decode cX2_bring 48 = .ok (.invokevirtual 40, 3) := by decide +kernel
theorem dX2_bring_51 : decode cX2_bring 51 = .ok (.putfield 20, 3) := by decide +kernel
theorem dX2_bring_54 : decode cX2_bring 54 = .ok (.return_, 1) := by decide +kernel
set_option maxRecDepth 20000 in
theorem ggX2_clearOf_X4_all : GoodIn wsX2_clearOf wsX4_all := goodIn_sub (gi_c 5 rfl (gi_a (gi_c 6 rfl gi_n) pz_X2_clearOf_X40)) (by decide +kernel)
set_option maxRecDepth 20000 in
theorem gX2_clearOf_X4_all_n44 : GoodIn wsX2_clearOf (wsX4_all) := ggX2_clearOf_X4_all
set_option maxRecDepth 20000 in
theorem ggX2_clearOf_X11_in : GoodIn wsX2_clearOf wsX11_in := goodIn_sub (gi_c 9 rfl gi_n) (by decide +kernel)
set_option maxRecDepth 20000 in
theorem gX2_clearOf_X11_in_n51 : GoodIn wsX2_clearOf (wsX11_in) := ggX2_clearOf_X11_in
set_option maxRecDepth 20000 in
theorem ggX2_clearOf_X4_reach : GoodIn wsX2_clearOf wsX4_reach := goodIn_sub (gi_c 12 rfl (gi_a (gi_c 13 rfl (gi_c 14 rfl (gi_c 8 rfl (gi_c 15 rfl (gi_c 16 rfl (gi_c 17 rfl (gi_c 18 rfl (gi_c 19 rfl (gi_c 20 rfl (gi_c 21 rfl (gi_c 22 rfl (gi_c 23 rfl gi_n)))))))))))) pz_X2_clearOf_X40)) (by decide +kernel)
set_option maxRecDepth 20000 in
theorem gX2_clearOf_X4_reach_n55 : GoodIn wsX2_clearOf (wsX4_reach) := ggX2_clearOf_X4_reach
theorem dX2_clearOf_0 : decode cX2_clearOf 0 = .ok (.aload_n 1, 1) := by decide +kernel
theorem dX2_clearOf_1 : decode cX2_clearOf 1 = .ok (.invokevirtual 44, 3) := by decide +kernel
theorem dX2_clearOf_4 : decode cX2_clearOf 4 = .ok (.aload_n 1, 1) := by decide +kernel
theorem dX2_clearOf_5 : decode cX2_clearOf 5 = .ok (.getfield 48, 3) := by decide +kernel
theorem dX2_clearOf_8 : decode cX2_clearOf 8 = .ok (.iload_n 2, 1) := by decide +kernel
theorem dX2_clearOf_9 : decode cX2_clearOf 9 = .ok (.iaload, 1) := by decide +kernel
theorem dX2_clearOf_10 : decode cX2_clearOf 10 = .ok (.iconst (-1), 1) := by decide +kernel
theorem dX2_clearOf_11 : decode cX2_clearOf 11 = .ok (.ixor, 1) := by decide +kernel
theorem dX2_clearOf_12 : decode cX2_clearOf 12 = .ok (.iand, 1) := by decide +kernel
theorem dX2_clearOf_13 : decode cX2_clearOf 13 = .ok (.iconst 1, 1) := by decide +kernel
theorem dX2_clearOf_14 : decode cX2_clearOf 14 = .ok (.iload_n 2, 1) := by decide +kernel
theorem dX2_clearOf_15 : decode cX2_clearOf 15 = .ok (.ishl, 1) := by decide +kernel
theorem dX2_clearOf_16 : decode cX2_clearOf 16 = .ok (.iconst (-1), 1) := by decide +kernel
theorem dX2_clearOf_17 : decode cX2_clearOf 17 = .ok (.ixor, 1) := by decide +kernel
theorem dX2_clearOf_18 : decode cX2_clearOf 18 = .ok (.iand, 1) := by decide +kernel
theorem dX2_clearOf_19 : decode cX2_clearOf 19 = .ok (.istore_n 3, 1) := by decide +kernel
theorem dX2_clearOf_20 : decode cX2_clearOf 20 = .ok (.iconst 0, 1) := by decide +kernel
theorem dX2_clearOf_21 : decode cX2_clearOf 21 = .ok (.istore 4, 2) := by decide +kernel
theorem dX2_clearOf_23 : decode cX2_clearOf 23 = .ok (.iload 4, 2) := by decide +kernel
theorem dX2_clearOf_25 : decode cX2_clearOf 25 = .ok (.aload_n 1, 1) := by decide +kernel
theorem dX2_clearOf_26 : decode cX2_clearOf 26 = .ok (.getfield 33, 3) := by decide +kernel
theorem dX2_clearOf_29 : decode cX2_clearOf 29 = .ok (.if_icmp .ge 38, 3) := by decide +kernel
theorem dX2_clearOf_32 : decode cX2_clearOf 32 = .ok (.aload_n 0, 1) := by decide +kernel
theorem dX2_clearOf_33 : decode cX2_clearOf 33 = .ok (.getfield 11, 3) := by decide +kernel
theorem dX2_clearOf_36 : decode cX2_clearOf 36 = .ok (.iload_n 2, 1) := by decide +kernel
theorem dX2_clearOf_37 : decode cX2_clearOf 37 = .ok (.aaload, 1) := by decide +kernel
theorem dX2_clearOf_38 : decode cX2_clearOf 38 = .ok (.iload 4, 2) := by decide +kernel
theorem dX2_clearOf_40 : decode cX2_clearOf 40 = .ok (.iload_n 3, 1) := by decide +kernel
theorem dX2_clearOf_41 : decode cX2_clearOf 41 = .ok (.iload 4, 2) := by decide +kernel
theorem dX2_clearOf_43 : decode cX2_clearOf 43 = .ok (.invokestatic 51, 3) := by decide +kernel
theorem dX2_clearOf_46 : decode cX2_clearOf 46 = .ok (.ifCond .eq 13, 3) := by decide +kernel
theorem dX2_clearOf_49 : decode cX2_clearOf 49 = .ok (.aload_n 1, 1) := by decide +kernel
theorem dX2_clearOf_50 : decode cX2_clearOf 50 = .ok (.iload 4, 2) := by decide +kernel
theorem dX2_clearOf_52 : decode cX2_clearOf 52 = .ok (.iload_n 3, 1) := by decide +kernel
theorem dX2_clearOf_53 : decode cX2_clearOf 53 = .ok (.invokevirtual 55, 3) := by decide +kernel
theorem dX2_clearOf_56 : decode cX2_clearOf 56 = .ok (.goto 4, 3) := by decide +kernel
theorem dX2_clearOf_59 : decode cX2_clearOf 59 = .ok (.iconst 0, 1) := by decide +kernel
theorem dX2_clearOf_60 : decode cX2_clearOf 60 = .ok (.iastore, 1) := by decide +kernel
theorem dX2_clearOf_61 : decode cX2_clearOf 61 = .ok (.iinc 4 1, 3) := by decide +kernel
theorem dX2_clearOf_64 : decode cX2_clearOf 64 = .ok (.goto (-41), 3) := by decide +kernel
theorem dX2_clearOf_67 : decode cX2_clearOf 67 = .ok (.return_, 1) := by decide +kernel
set_option maxRecDepth 20000 in
theorem ggX2_lookFor_X11_in : GoodIn wsX2_lookFor wsX11_in := goodIn_sub (gi_c 5 rfl gi_n) (by decide +kernel)
set_option maxRecDepth 20000 in
theorem gX2_lookFor_X11_in_n51 : GoodIn wsX2_lookFor (wsX11_in) := ggX2_lookFor_X11_in
theorem dX2_lookFor_0 : decode cX2_lookFor 0 = .ok (.iconst 0, 1) := by decide +kernel
theorem dX2_lookFor_1 : decode cX2_lookFor 1 = .ok (.istore_n 2, 1) := by decide +kernel
theorem dX2_lookFor_2 : decode cX2_lookFor 2 = .ok (.iload_n 2, 1) := by decide +kernel
theorem dX2_lookFor_3 : decode cX2_lookFor 3 = .ok (.iload_n 1, 1) := by decide +kernel
theorem dX2_lookFor_4 : decode cX2_lookFor 4 = .ok (.if_icmp .ge 113, 3) := by decide +kernel
theorem dX2_lookFor_7 : decode cX2_lookFor 7 = .ok (.iload_n 2, 1) := by decide +kernel
theorem dX2_lookFor_8 : decode cX2_lookFor 8 = .ok (.iconst 1, 1) := by decide +kernel
theorem dX2_lookFor_9 : decode cX2_lookFor 9 = .ok (.iadd, 1) := by decide +kernel
theorem dX2_lookFor_10 : decode cX2_lookFor 10 = .ok (.istore_n 3, 1) := by decide +kernel
theorem dX2_lookFor_11 : decode cX2_lookFor 11 = .ok (.iload_n 3, 1) := by decide +kernel
theorem dX2_lookFor_12 : decode cX2_lookFor 12 = .ok (.iload_n 1, 1) := by decide +kernel
theorem dX2_lookFor_13 : decode cX2_lookFor 13 = .ok (.if_icmp .ge 98, 3) := by decide +kernel
theorem dX2_lookFor_16 : decode cX2_lookFor 16 = .ok (.iload_n 3, 1) := by decide +kernel
theorem dX2_lookFor_17 : decode cX2_lookFor 17 = .ok (.iconst 1, 1) := by decide +kernel
theorem dX2_lookFor_18 : decode cX2_lookFor 18 = .ok (.iadd, 1) := by decide +kernel
theorem dX2_lookFor_19 : decode cX2_lookFor 19 = .ok (.istore 4, 2) := by decide +kernel
theorem dX2_lookFor_21 : decode cX2_lookFor 21 = .ok (.iload 4, 2) := by decide +kernel
theorem dX2_lookFor_23 : decode cX2_lookFor 23 = .ok (.iload_n 1, 1) := by decide +kernel
theorem dX2_lookFor_24 : decode cX2_lookFor 24 = .ok (.if_icmp .ge 81, 3) := by decide +kernel
theorem dX2_lookFor_27 : decode cX2_lookFor 27 = .ok (.aload_n 0, 1) := by decide +kernel
theorem dX2_lookFor_28 : decode cX2_lookFor 28 = .ok (.getfield 11, 3) := by decide +kernel
theorem dX2_lookFor_31 : decode cX2_lookFor 31 = .ok (.iload_n 2, 1) := by decide +kernel
theorem dX2_lookFor_32 : decode cX2_lookFor 32 = .ok (.aaload, 1) := by decide +kernel
theorem dX2_lookFor_33 : decode cX2_lookFor 33 = .ok (.iload_n 3, 1) := by decide +kernel
theorem dX2_lookFor_34 : decode cX2_lookFor 34 = .ok (.iaload, 1) := by decide +kernel
theorem dX2_lookFor_35 : decode cX2_lookFor 35 = .ok (.iload 4, 2) := by decide +kernel
theorem dX2_lookFor_37 : decode cX2_lookFor 37 = .ok (.invokestatic 51, 3) := by decide +kernel
theorem dX2_lookFor_40 : decode cX2_lookFor 40 = .ok (.ifCond .eq 59, 3) := by decide +kernel
theorem dX2_lookFor_43 : decode cX2_lookFor 43 = .ok (.aload_n 0, 1) := by decide +kernel
theorem dX2_lookFor_44 : decode cX2_lookFor 44 = .ok (.getfield 11, 3) := by decide +kernel
theorem dX2_lookFor_47 : decode cX2_lookFor 47 = .ok (.iload_n 3, 1) := by decide +kernel
theorem dX2_lookFor_48 : decode cX2_lookFor 48 = .ok (.aaload, 1) := by decide +kernel
theorem dX2_lookFor_49 : decode cX2_lookFor 49 = .ok (.iload_n 2, 1) := by decide +kernel
theorem dX2_lookFor_50 : decode cX2_lookFor 50 = .ok (.iaload, 1) := by decide +kernel
theorem dX2_lookFor_51 : decode cX2_lookFor 51 = .ok (.iload 4, 2) := by decide +kernel
theorem dX2_lookFor_53 : decode cX2_lookFor 53 = .ok (.invokestatic 51, 3) := by decide +kernel
theorem dX2_lookFor_56 : decode cX2_lookFor 56 = .ok (.ifCond .eq 43, 3) := by decide +kernel
theorem dX2_lookFor_59 : decode cX2_lookFor 59 = .ok (.aload_n 0, 1) := by decide +kernel
theorem dX2_lookFor_60 : decode cX2_lookFor 60 = .ok (.getfield 11, 3) := by decide +kernel
theorem dX2_lookFor_63 : decode cX2_lookFor 63 = .ok (.iload 4, 2) := by decide +kernel
theorem dX2_lookFor_65 : decode cX2_lookFor 65 = .ok (.aaload, 1) := by decide +kernel
theorem dX2_lookFor_66 : decode cX2_lookFor 66 = .ok (.iload_n 2, 1) := by decide +kernel
theorem dX2_lookFor_67 : decode cX2_lookFor 67 = .ok (.iaload, 1) := by decide +kernel
theorem dX2_lookFor_68 : decode cX2_lookFor 68 = .ok (.iload_n 3, 1) := by decide +kernel
theorem dX2_lookFor_69 : decode cX2_lookFor 69 = .ok (.invokestatic 51, 3) := by decide +kernel
theorem dX2_lookFor_72 : decode cX2_lookFor 72 = .ok (.ifCond .eq 27, 3) := by decide +kernel
theorem dX2_lookFor_75 : decode cX2_lookFor 75 = .ok (.aload_n 0, 1) := by decide +kernel
theorem dX2_lookFor_76 : decode cX2_lookFor 76 = .ok (.getfield 16, 3) := by decide +kernel
theorem dX2_lookFor_79 : decode cX2_lookFor 79 = .ok (.iconst 0, 1) := by decide +kernel
theorem dX2_lookFor_80 : decode cX2_lookFor 80 = .ok (.iload_n 2, 1) := by decide +kernel
theorem dX2_lookFor_81 : decode cX2_lookFor 81 = .ok (.iastore, 1) := by decide +kernel
theorem dX2_lookFor_82 : decode cX2_lookFor 82 = .ok (.aload_n 0, 1) := by decide +kernel
theorem dX2_lookFor_83 : decode cX2_lookFor 83 = .ok (.getfield 16, 3) := by decide +kernel
theorem dX2_lookFor_86 : decode cX2_lookFor 86 = .ok (.iconst 1, 1) := by decide +kernel
theorem dX2_lookFor_87 : decode cX2_lookFor 87 = .ok (.iload_n 3, 1) := by decide +kernel
theorem dX2_lookFor_88 : decode cX2_lookFor 88 = .ok (.iastore, 1) := by decide +kernel
theorem dX2_lookFor_89 : decode cX2_lookFor 89 = .ok (.aload_n 0, 1) := by decide +kernel
theorem dX2_lookFor_90 : decode cX2_lookFor 90 = .ok (.getfield 16, 3) := by decide +kernel
theorem dX2_lookFor_93 : decode cX2_lookFor 93 = .ok (.iconst 2, 1) := by decide +kernel
theorem dX2_lookFor_94 : decode cX2_lookFor 94 = .ok (.iload 4, 2) := by decide +kernel
theorem dX2_lookFor_96 : decode cX2_lookFor 96 = .ok (.iastore, 1) := by decide +kernel
theorem dX2_lookFor_97 : decode cX2_lookFor 97 = .ok (.iconst 1, 1) := by decide +kernel
theorem dX2_lookFor_98 : decode cX2_lookFor 98 = .ok (.ireturn, 1) := by decide +kernel
theorem dX2_lookFor_99 : decode cX2_lookFor 99 = .ok (.iinc 4 1, 3) := by decide +kernel
theorem dX2_lookFor_102 : decode cX2_lookFor 102 = .ok (.goto (-81), 3) := by decide +kernel
theorem dX2_lookFor_105 : decode cX2_lookFor 105 = .ok (.iinc 3 1, 3) := by decide +kernel
theorem dX2_lookFor_108 : decode cX2_lookFor 108 = .ok (.goto (-97), 3) := by decide +kernel
theorem dX2_lookFor_111 : decode cX2_lookFor 111 = .ok (.iinc 2 1, 3) := by decide +kernel
theorem dX2_lookFor_114 : decode cX2_lookFor 114 = .ok (.goto (-112), 3) := by decide +kernel
theorem dX2_lookFor_117 : decode cX2_lookFor 117 = .ok (.iconst 0, 1) := by decide +kernel
theorem dX2_lookFor_118 : decode cX2_lookFor 118 = .ok (.ireturn, 1) := by decide +kernel
theorem dX3_start_0 : decode cX3_start 0 = .ok (.aload_n 0, 1) := by decide +kernel
theorem dX3_start_1 : decode cX3_start 1 = .ok (.aload_n 1, 1) := by decide +kernel
theorem dX3_start_2 : decode cX3_start 2 = .ok (.getfield 20, 3) := by decide +kernel
theorem dX3_start_5 : decode cX3_start 5 = .ok (.putfield 16, 3) := by decide +kernel
theorem dX3_start_8 : decode cX3_start 8 = .ok (.aload_n 1, 1) := by decide +kernel
theorem dX3_start_9 : decode cX3_start 9 = .ok (.getfield 23, 3) := by decide +kernel
theorem dX3_start_12 : decode cX3_start 12 = .ok (.iconst 0, 1) := by decide +kernel
theorem dX3_start_13 : decode cX3_start 13 = .ok (.aload_n 0, 1) := by decide +kernel
theorem dX3_start_14 : decode cX3_start 14 = .ok (.getfield 11, 3) := by decide +kernel
theorem dX3_start_17 : decode cX3_start 17 = .ok (.iconst 0, 1) := by decide +kernel
theorem dX3_start_18 : decode cX3_start 18 = .ok (.aaload, 1) := by decide +kernel
theorem dX3_start_19 : decode cX3_start 19 = .ok (.iconst 0, 1) := by decide +kernel
theorem dX3_start_20 : decode cX3_start 20 = .ok (.bipush 12, 2) := by decide +kernel
theorem dX3_start_22 : decode cX3_start 22 = .ok (.invokestatic 26, 3) := by decide +kernel
theorem dX3_start_25 : decode cX3_start 25 = .ok (.return_, 1) := by decide +kernel
set_option maxRecDepth 20000 in
theorem ggX3_leave_J6_numberOfTrailingZeros_0f7a4 : GoodIn wsX3_leave wsJ6_numberOfTrailingZeros_0f7a4 := goodIn_sub (gi_c 10 rfl (gi_c 11 rfl gi_n)) (by decide +kernel)
set_option maxRecDepth 20000 in
theorem gX3_leave_J6_numberOfTrailingZeros_0f7a4 : GoodIn wsX3_leave (va_wsS RX3 32 yJ6_numberOfTrailingZeros_0f7a4 wsJ6_numberOfTrailingZeros_0f7a4) := goodIn_app (goodIn_of _ (by decide +kernel)) ggX3_leave_J6_numberOfTrailingZeros_0f7a4
set_option maxRecDepth 20000 in
theorem ggX3_leave_X11_withoutLeast : GoodIn wsX3_leave wsX11_withoutLeast := goodIn_sub (gi_c 14 rfl gi_n) (by decide +kernel)
set_option maxRecDepth 20000 in
theorem gX3_leave_X11_withoutLeast_n38 : GoodIn wsX3_leave (wsX11_withoutLeast) := ggX3_leave_X11_withoutLeast
theorem dX3_leave_0 : decode cX3_leave 0 = .ok (.aload_n 0, 1) := by decide +kernel
theorem dX3_leave_1 : decode cX3_leave 1 = .ok (.getfield 11, 3) := by decide +kernel
theorem dX3_leave_4 : decode cX3_leave 4 = .ok (.iload_n 1, 1) := by decide +kernel
theorem dX3_leave_5 : decode cX3_leave 5 = .ok (.aaload, 1) := by decide +kernel
theorem dX3_leave_6 : decode cX3_leave 6 = .ok (.astore_n 3, 1) := by decide +kernel
theorem dX3_leave_7 : decode cX3_leave 7 = .ok (.aload_n 0, 1) := by decide +kernel
theorem dX3_leave_8 : decode cX3_leave 8 = .ok (.getfield 11, 3) := by decide +kernel
theorem dX3_leave_11 : decode cX3_leave 11 = .ok (.iload_n 1, 1) := by decide +kernel
theorem dX3_leave_12 : decode cX3_leave 12 = .ok (.iconst 1, 1) := by decide +kernel
theorem dX3_leave_13 : decode cX3_leave 13 = .ok (.iadd, 1) := by decide +kernel
theorem dX3_leave_14 : decode cX3_leave 14 = .ok (.aaload, 1) := by decide +kernel
theorem dX3_leave_15 : decode cX3_leave 15 = .ok (.astore 4, 2) := by decide +kernel
theorem dX3_leave_17 : decode cX3_leave 17 = .ok (.aload_n 3, 1) := by decide +kernel
theorem dX3_leave_18 : decode cX3_leave 18 = .ok (.iconst 0, 1) := by decide +kernel
theorem dX3_leave_19 : decode cX3_leave 19 = .ok (.aload 4, 2) := by decide +kernel
theorem dX3_leave_21 : decode cX3_leave 21 = .ok (.iconst 0, 1) := by decide +kernel
theorem dX3_leave_22 : decode cX3_leave 22 = .ok (.bipush 12, 2) := by decide +kernel
theorem dX3_leave_24 : decode cX3_leave 24 = .ok (.invokestatic 26, 3) := by decide +kernel
theorem dX3_leave_27 : decode cX3_leave 27 = .ok (.aload 4, 2) := by decide +kernel
theorem dX3_leave_29 : decode cX3_leave 29 = .ok (.iload_n 2, 1) := by decide +kernel
theorem dX3_leave_30 : decode cX3_leave 30 = .ok (.iconst 0, 1) := by decide +kernel
theorem dX3_leave_31 : decode cX3_leave 31 = .ok (.iastore, 1) := by decide +kernel
theorem dX3_leave_32 : decode cX3_leave 32 = .ok (.aload_n 3, 1) := by decide +kernel
theorem dX3_leave_33 : decode cX3_leave 33 = .ok (.iload_n 2, 1) := by decide +kernel
theorem dX3_leave_34 : decode cX3_leave 34 = .ok (.iaload, 1) := by decide +kernel
theorem dX3_leave_35 : decode cX3_leave 35 = .ok (.istore 5, 2) := by decide +kernel
theorem dX3_leave_37 : decode cX3_leave 37 = .ok (.iconst 0, 1) := by decide +kernel
theorem dX3_leave_38 : decode cX3_leave 38 = .ok (.istore 6, 2) := by decide +kernel
theorem dX3_leave_40 : decode cX3_leave 40 = .ok (.iload 6, 2) := by decide +kernel
theorem dX3_leave_42 : decode cX3_leave 42 = .ok (.aload_n 0, 1) := by decide +kernel
theorem dX3_leave_43 : decode cX3_leave 43 = .ok (.getfield 16, 3) := by decide +kernel
theorem dX3_leave_46 : decode cX3_leave 46 = .ok (.if_icmp .ge 54, 3) := by decide +kernel
theorem dX3_leave_49 : decode cX3_leave 49 = .ok (.iload 5, 2) := by decide +kernel
theorem dX3_leave_51 : decode cX3_leave 51 = .ok (.ifCond .eq 49, 3) := by decide +kernel
theorem dX3_leave_54 : decode cX3_leave 54 = .ok (.iload 5, 2) := by decide +kernel
theorem dX3_leave_56 : decode cX3_leave 56 = .ok (.invokestatic 32, 3) := by decide +kernel
theorem dX3_leave_59 : decode cX3_leave 59 = .ok (.istore 7, 2) := by decide +kernel
theorem dX3_leave_61 : decode cX3_leave 61 = .ok (.aload 4, 2) := by decide +kernel
theorem dX3_leave_63 : decode cX3_leave 63 = .ok (.iload 7, 2) := by decide +kernel
theorem dX3_leave_65 : decode cX3_leave 65 = .ok (.aload_n 3, 1) := by decide +kernel
theorem dX3_leave_66 : decode cX3_leave 66 = .ok (.iload 7, 2) := by decide +kernel
theorem dX3_leave_68 : decode cX3_leave 68 = .ok (.iaload, 1) := by decide +kernel
theorem dX3_leave_69 : decode cX3_leave 69 = .ok (.aload_n 3, 1) := by decide +kernel
theorem dX3_leave_70 : decode cX3_leave 70 = .ok (.iload_n 2, 1) := by decide +kernel
theorem dX3_leave_71 : decode cX3_leave 71 = .ok (.iaload, 1) := by decide +kernel
theorem dX3_leave_72 : decode cX3_leave 72 = .ok (.ior, 1) := by decide +kernel
theorem dX3_leave_73 : decode cX3_leave 73 = .ok (.iconst 1, 1) := by decide +kernel
theorem dX3_leave_74 : decode cX3_leave 74 = .ok (.iload 7, 2) := by decide +kernel
theorem dX3_leave_76 : decode cX3_leave 76 = .ok (.ishl, 1) := by decide +kernel
theorem dX3_leave_77 : decode cX3_leave 77 = .ok (.iconst (-1), 1) := by decide +kernel
theorem dX3_leave_78 : decode cX3_leave 78 = .ok (.ixor, 1) := by decide +kernel
theorem dX3_leave_79 : decode cX3_leave 79 = .ok (.iand, 1) := by decide +kernel
theorem dX3_leave_80 : decode cX3_leave 80 = .ok (.iconst 1, 1) := by decide +kernel
theorem dX3_leave_81 : decode cX3_leave 81 = .ok (.iload_n 2, 1) := by decide +kernel
theorem dX3_leave_82 : decode cX3_leave 82 = .ok (.ishl, 1) := by decide +kernel
theorem dX3_leave_83 : decode cX3_leave 83 = .ok (.iconst (-1), 1) := by decide +kernel
theorem dX3_leave_84 : decode cX3_leave 84 = .ok (.ixor, 1) := by decide +kernel
theorem dX3_leave_85 : decode cX3_leave 85 = .ok (.iand, 1) := by decide +kernel
theorem dX3_leave_86 : decode cX3_leave 86 = .ok (.iastore, 1) := by decide +kernel
theorem dX3_leave_87 : decode cX3_leave 87 = .ok (.iload 5, 2) := by decide +kernel
theorem dX3_leave_89 : decode cX3_leave 89 = .ok (.invokestatic 38, 3) := by decide +kernel
theorem dX3_leave_92 : decode cX3_leave 92 = .ok (.istore 5, 2) := by decide +kernel
theorem dX3_leave_94 : decode cX3_leave 94 = .ok (.iinc 6 1, 3) := by decide +kernel
theorem dX3_leave_97 : decode cX3_leave 97 = .ok (.goto (-57), 3) := by decide +kernel
theorem dX3_leave_100 : decode cX3_leave 100 = .ok (.return_, 1) := by decide +kernel
set_option maxRecDepth 20000 in
theorem ggX3_width_J6_bitCount_0f7a4 : GoodIn wsX3_width wsJ6_bitCount_0f7a4 := goodIn_sub (gi_c 5 rfl (gi_c 6 rfl (gi_c 7 rfl (gi_c 8 rfl gi_n)))) (by decide +kernel)
set_option maxRecDepth 20000 in
theorem gX3_width_J6_bitCount_0f7a4 : GoodIn wsX3_width (va_wsS RX3 41 yJ6_bitCount_0f7a4 wsJ6_bitCount_0f7a4) := goodIn_app (goodIn_of _ (by decide +kernel)) ggX3_width_J6_bitCount_0f7a4
theorem dX3_width_0 : decode cX3_width 0 = .ok (.aload_n 0, 1) := by decide +kernel
theorem dX3_width_1 : decode cX3_width 1 = .ok (.getfield 11, 3) := by decide +kernel
theorem dX3_width_4 : decode cX3_width 4 = .ok (.iload_n 1, 1) := by decide +kernel
theorem dX3_width_5 : decode cX3_width 5 = .ok (.aaload, 1) := by decide +kernel
theorem dX3_width_6 : decode cX3_width 6 = .ok (.iload_n 2, 1) := by decide +kernel
theorem dX3_width_7 : decode cX3_width 7 = .ok (.iaload, 1) := by decide +kernel
theorem dX3_width_8 : decode cX3_width 8 = .ok (.invokestatic 41, 3) := by decide +kernel
theorem dX3_width_11 : decode cX3_width 11 = .ok (.ireturn, 1) := by decide +kernel
set_option maxRecDepth 20000 in
theorem ggX3_lack_J6_numberOfTrailingZeros_0f7a4 : GoodIn wsX3_lack wsJ6_numberOfTrailingZeros_0f7a4 := goodIn_sub (gi_c 6 rfl (gi_c 7 rfl gi_n)) (by decide +kernel)
set_option maxRecDepth 20000 in
theorem gX3_lack_J6_numberOfTrailingZeros_0f7a4 : GoodIn wsX3_lack (va_wsS RX3 32 yJ6_numberOfTrailingZeros_0f7a4 wsJ6_numberOfTrailingZeros_0f7a4) := goodIn_app (goodIn_of _ (by decide +kernel)) ggX3_lack_J6_numberOfTrailingZeros_0f7a4
set_option maxRecDepth 20000 in
theorem ggX3_lack_J6_bitCount_0f7a4 : GoodIn wsX3_lack wsJ6_bitCount_0f7a4 := goodIn_sub (gi_c 10 rfl (gi_c 11 rfl (gi_c 12 rfl (gi_c 13 rfl gi_n)))) (by decide +kernel)
set_option maxRecDepth 20000 in
theorem gX3_lack_J6_bitCount_0f7a4 : GoodIn wsX3_lack (va_wsS RX3 41 yJ6_bitCount_0f7a4 wsJ6_bitCount_0f7a4) := goodIn_app (goodIn_of _ (by decide +kernel)) ggX3_lack_J6_bitCount_0f7a4
set_option maxRecDepth 20000 in
theorem ggX3_lack_X11_withoutLeast : GoodIn wsX3_lack wsX11_withoutLeast := goodIn_sub (gi_c 16 rfl gi_n) (by decide +kernel)
set_option maxRecDepth 20000 in
theorem gX3_lack_X11_withoutLeast_n38 : GoodIn wsX3_lack (wsX11_withoutLeast) := ggX3_lack_X11_withoutLeast
theorem dX3_lack_0 : decode cX3_lack 0 = .ok (.aload_n 0, 1) := by decide +kernel
theorem dX3_lack_1 : decode cX3_lack 1 = .ok (.getfield 11, 3) := by decide +kernel
theorem dX3_lack_4 : decode cX3_lack 4 = .ok (.iload_n 1, 1) := by decide +kernel
theorem dX3_lack_5 : decode cX3_lack 5 = .ok (.aaload, 1) := by decide +kernel
theorem dX3_lack_6 : decode cX3_lack 6 = .ok (.astore_n 3, 1) := by decide +kernel
theorem dX3_lack_7 : decode cX3_lack 7 = .ok (.aload_n 3, 1) := by decide +kernel
theorem dX3_lack_8 : decode cX3_lack 8 = .ok (.iload_n 2, 1) := by decide +kernel
theorem dX3_lack_9 : decode cX3_lack 9 = .ok (.iaload, 1) := by decide +kernel
theorem dX3_lack_10 : decode cX3_lack 10 = .ok (.istore 4, 2) := by decide +kernel
theorem dX3_lack_12 : decode cX3_lack 12 = .ok (.iconst 0, 1) := by decide +kernel
theorem dX3_lack_13 : decode cX3_lack 13 = .ok (.istore 5, 2) := by decide +kernel
theorem dX3_lack_15 : decode cX3_lack 15 = .ok (.iload 4, 2) := by decide +kernel
theorem dX3_lack_17 : decode cX3_lack 17 = .ok (.istore 6, 2) := by decide +kernel
theorem dX3_lack_19 : decode cX3_lack 19 = .ok (.iconst 0, 1) := by decide +kernel
theorem dX3_lack_20 : decode cX3_lack 20 = .ok (.istore 7, 2) := by decide +kernel
theorem dX3_lack_22 : decode cX3_lack 22 = .ok (.iload 7, 2) := by decide +kernel
theorem dX3_lack_24 : decode cX3_lack 24 = .ok (.aload_n 0, 1) := by decide +kernel
theorem dX3_lack_25 : decode cX3_lack 25 = .ok (.getfield 16, 3) := by decide +kernel
theorem dX3_lack_28 : decode cX3_lack 28 = .ok (.if_icmp .ge 43, 3) := by decide +kernel
theorem dX3_lack_31 : decode cX3_lack 31 = .ok (.iload 6, 2) := by decide +kernel
theorem dX3_lack_33 : decode cX3_lack 33 = .ok (.ifCond .eq 38, 3) := by decide +kernel
theorem dX3_lack_36 : decode cX3_lack 36 = .ok (.iload 5, 2) := by decide +kernel
theorem dX3_lack_38 : decode cX3_lack 38 = .ok (.iload 4, 2) := by decide +kernel
theorem dX3_lack_40 : decode cX3_lack 40 = .ok (.aload_n 3, 1) := by decide +kernel
theorem dX3_lack_41 : decode cX3_lack 41 = .ok (.iload 6, 2) := by decide +kernel
theorem dX3_lack_43 : decode cX3_lack 43 = .ok (.invokestatic 32, 3) := by decide +kernel
