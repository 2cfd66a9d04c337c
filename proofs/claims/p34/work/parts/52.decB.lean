theorem pz_X5_init_X30 : ∀ x ∈ wsX30, x ∈ wsX5_init := fun _ h => (List.mem_cons_of_mem _ (List.mem_append_left _ (List.mem_append_right _ h)))
theorem pz_X6_init_X6_init_r2 : ∀ x ∈ wsX6_init_r2, x ∈ wsX6_init := fun _ h => (List.mem_cons_of_mem _ (List.mem_append_left _ (List.mem_append_left _ (List.mem_append_left _ (List.mem_append_right _ h)))))
theorem pz_X6_init_X6_init_r1 : ∀ x ∈ wsX6_init_r1, x ∈ wsX6_init := fun _ h => (List.mem_cons_of_mem _ (List.mem_append_left _ (List.mem_append_left _ (List.mem_append_left _ (List.mem_append_left _ h)))))
theorem pz_X6_init_X30 : ∀ x ∈ wsX30, x ∈ wsX6_init := fun _ h => (List.mem_cons_of_mem _ (List.mem_append_left _ (List.mem_append_left _ (List.mem_append_right _ h))))
theorem pz_X6_init_X50 : ∀ x ∈ wsX50, x ∈ wsX6_init := fun _ h => (List.mem_cons_of_mem _ (List.mem_append_right _ h))
theorem pz_X9_init_X30 : ∀ x ∈ wsX30, x ∈ wsX9_init := fun _ h => (List.mem_cons_of_mem _ (List.mem_append_left _ (List.mem_append_right _ h)))
theorem pz_X11_init_X11_init_r3 : ∀ x ∈ wsX11_init_r3, x ∈ wsX11_init := fun _ h => (List.mem_cons_of_mem _ (List.mem_append_left _ (List.mem_append_left _ (List.mem_append_left _ (List.mem_append_left _ (List.mem_append_left _ (List.mem_append_left _ (List.mem_append_left _ (List.mem_append_left _ (List.mem_append_left _ (List.mem_append_left _ (List.mem_append_left _ (List.mem_append_left _ (List.mem_append_right _ (List.mem_append_right _ (List.mem_append_left _ h))))))))))))))))
theorem pz_X11_init_X11_init_r2 : ∀ x ∈ wsX11_init_r2, x ∈ wsX11_init := fun _ h => (List.mem_cons_of_mem _ (List.mem_append_left _ (List.mem_append_left _ (List.mem_append_left _ (List.mem_append_left _ (List.mem_append_left _ (List.mem_append_left _ (List.mem_append_left _ (List.mem_append_left _ (List.mem_append_left _ (List.mem_append_left _ (List.mem_append_left _ (List.mem_append_left _ (List.mem_append_right _ (List.mem_append_left _ h)))))))))))))))
theorem pz_X11_init_X11_init_r1 : ∀ x ∈ wsX11_init_r1, x ∈ wsX11_init := fun _ h => (List.mem_cons_of_mem _ (List.mem_append_left _ (List.mem_append_left _ (List.mem_append_left _ (List.mem_append_left _ (List.mem_append_left _ (List.mem_append_left _ (List.mem_append_left _ (List.mem_append_left _ (List.mem_append_left _ (List.mem_append_left _ (List.mem_append_left _ (List.mem_append_left _ (List.mem_append_left _ h))))))))))))))
theorem pz_X11_init_X40 : ∀ x ∈ wsX40, x ∈ wsX11_init := fun _ h => (List.mem_cons_of_mem _ (List.mem_append_left _ (List.mem_append_left _ (List.mem_append_left _ (List.mem_append_left _ (List.mem_append_left _ (List.mem_append_left _ (List.mem_append_left _ (List.mem_append_left _ (List.mem_append_left _ (List.mem_append_left _ (List.mem_append_left _ (List.mem_append_right _ h)))))))))))))
theorem pz_X11_init_X100 : ∀ x ∈ wsX100, x ∈ wsX11_init := fun _ h => (List.mem_cons_of_mem _ (List.mem_append_left _ (List.mem_append_left _ (List.mem_append_left _ (List.mem_append_left _ (List.mem_append_left _ (List.mem_append_left _ (List.mem_append_left _ (List.mem_append_left _ (List.mem_append_left _ (List.mem_append_right _ h)))))))))))
theorem pz_X11_init_X11_init_r4 : ∀ x ∈ wsX11_init_r4, x ∈ wsX11_init := fun _ h => (List.mem_cons_of_mem _ (List.mem_append_left _ (List.mem_append_left _ (List.mem_append_left _ (List.mem_append_left _ (List.mem_append_left _ (List.mem_append_left _ (List.mem_append_left _ (List.mem_append_left _ (List.mem_append_left _ (List.mem_append_left _ (List.mem_append_left _ (List.mem_append_left _ (List.mem_append_right _ (List.mem_append_right _ (List.mem_append_right _ (List.mem_append_left _ h)))))))))))))))))
theorem pz_X11_init_X30 : ∀ x ∈ wsX30, x ∈ wsX11_init := fun _ h => (List.mem_cons_of_mem _ (List.mem_append_left _ (List.mem_append_right _ h)))
theorem pz_X11_init_X60 : ∀ x ∈ wsX60, x ∈ wsX11_init := fun _ h => (List.mem_cons_of_mem _ (List.mem_append_left _ (List.mem_append_left _ (List.mem_append_left _ (List.mem_append_left _ (List.mem_append_left _ (List.mem_append_left _ (List.mem_append_left _ (List.mem_append_left _ (List.mem_append_right _ h))))))))))
theorem pz_X11_init_X50 : ∀ x ∈ wsX50, x ∈ wsX11_init := fun _ h => (List.mem_cons_of_mem _ (List.mem_append_right _ h))
theorem pz_X11_init_X11_init_r5 : ∀ x ∈ wsX11_init_r5, x ∈ wsX11_init := fun _ h => (List.mem_cons_of_mem _ (List.mem_append_left _ (List.mem_append_left _ (List.mem_append_left _ (List.mem_append_left _ (List.mem_append_left _ (List.mem_append_left _ (List.mem_append_left _ (List.mem_append_left _ (List.mem_append_left _ (List.mem_append_left _ (List.mem_append_left _ (List.mem_append_left _ (List.mem_append_right _ (List.mem_append_right _ (List.mem_append_right _ (List.mem_append_right _ (List.mem_append_left _ h))))))))))))))))))
theorem pz_X11_init_X90 : ∀ x ∈ wsX90, x ∈ wsX11_init := fun _ h => (List.mem_cons_of_mem _ (List.mem_append_left _ (List.mem_append_left _ (List.mem_append_left _ (List.mem_append_left _ (List.mem_append_left _ (List.mem_append_left _ (List.mem_append_left _ (List.mem_append_right _ h)))))))))
theorem pz_X11_init_X10 : ∀ x ∈ wsX10, x ∈ wsX11_init := fun _ h => (List.mem_cons_of_mem _ (List.mem_append_left _ (List.mem_append_left _ (List.mem_append_left _ (List.mem_append_left _ (List.mem_append_left _ (List.mem_append_left _ (List.mem_append_right _ h))))))))
theorem pz_X11_init_X11_init_r6 : ∀ x ∈ wsX11_init_r6, x ∈ wsX11_init := fun _ h => (List.mem_cons_of_mem _ (List.mem_append_left _ (List.mem_append_left _ (List.mem_append_left _ (List.mem_append_left _ (List.mem_append_left _ (List.mem_append_left _ (List.mem_append_left _ (List.mem_append_left _ (List.mem_append_left _ (List.mem_append_left _ (List.mem_append_left _ (List.mem_append_left _ (List.mem_append_right _ (List.mem_append_right _ (List.mem_append_right _ (List.mem_append_right _ (List.mem_append_right _ (List.mem_append_left _ h)))))))))))))))))))
theorem pz_X11_init_X70 : ∀ x ∈ wsX70, x ∈ wsX11_init := fun _ h => (List.mem_cons_of_mem _ (List.mem_append_left _ (List.mem_append_left _ (List.mem_append_left _ (List.mem_append_left _ (List.mem_append_left _ (List.mem_append_right _ h)))))))
theorem pz_X11_init_X80 : ∀ x ∈ wsX80, x ∈ wsX11_init := fun _ h => (List.mem_cons_of_mem _ (List.mem_append_left _ (List.mem_append_left _ (List.mem_append_left _ (List.mem_append_left _ (List.mem_append_right _ h))))))
theorem pz_X11_init_X20 : ∀ x ∈ wsX20, x ∈ wsX11_init := fun _ h => (List.mem_cons_of_mem _ (List.mem_append_left _ (List.mem_append_left _ (List.mem_append_left _ (List.mem_append_right _ h)))))
theorem pz_X11_init_X11_init_r7 : ∀ x ∈ wsX11_init_r7, x ∈ wsX11_init := fun _ h => (List.mem_cons_of_mem _ (List.mem_append_left _ (List.mem_append_left _ (List.mem_append_left _ (List.mem_append_left _ (List.mem_append_left _ (List.mem_append_left _ (List.mem_append_left _ (List.mem_append_left _ (List.mem_append_left _ (List.mem_append_left _ (List.mem_append_left _ (List.mem_append_left _ (List.mem_append_right _ (List.mem_append_right _ (List.mem_append_right _ (List.mem_append_right _ (List.mem_append_right _ (List.mem_append_right _ h)))))))))))))))))))
theorem pz_X11_init_X00 : ∀ x ∈ wsX00, x ∈ wsX11_init := fun _ h => (List.mem_cons_of_mem _ (List.mem_append_left _ (List.mem_append_left _ (List.mem_append_right _ h))))
theorem pz_X12_nodes_X120 : ∀ x ∈ wsX120, x ∈ wsX12_nodes := fun _ h => (List.mem_cons_of_mem _ (List.mem_append_right _ h))
theorem pz_X12_join_X120 : ∀ x ∈ wsX120, x ∈ wsX12_join := fun _ h => (List.mem_cons_of_mem _ (List.mem_append_right _ h))
theorem pz_X12_joined_X120 : ∀ x ∈ wsX120, x ∈ wsX12_joined := fun _ h => (List.mem_cons_of_mem _ (List.mem_append_right _ h))
theorem pz_X12_kindOf_X120 : ∀ x ∈ wsX120, x ∈ wsX12_kindOf := fun _ h => (List.mem_cons_of_mem _ (List.mem_append_right _ h))
theorem pz_X12_kind_X12_kind_r1 : ∀ x ∈ wsX12_kind_r1, x ∈ wsX12_kind := fun _ h => (List.mem_cons_of_mem _ (List.mem_append_left _ (List.mem_append_left _ h)))
theorem pz_X12_kind_X120 : ∀ x ∈ wsX120, x ∈ wsX12_kind := fun _ h => (List.mem_cons_of_mem _ (List.mem_append_right _ h))
theorem pz_X12_kind_X12_kind_r2 : ∀ x ∈ wsX12_kind_r2, x ∈ wsX12_kind := fun _ h => (List.mem_cons_of_mem _ (List.mem_append_left _ (List.mem_append_right _ h)))
theorem pz_X12_degree_X12_degree_r1 : ∀ x ∈ wsX12_degree_r1, x ∈ wsX12_degree := fun _ h => (List.mem_cons_of_mem _ (List.mem_append_left _ (List.mem_append_left _ h)))
theorem pz_X12_degree_X120 : ∀ x ∈ wsX120, x ∈ wsX12_degree := fun _ h => (List.mem_cons_of_mem _ (List.mem_append_right _ h))
theorem pz_X12_degree_X12_degree_r2 : ∀ x ∈ wsX12_degree_r2, x ∈ wsX12_degree := fun _ h => (List.mem_cons_of_mem _ (List.mem_append_left _ (List.mem_append_right _ h)))
theorem pz_X12_isSound_X120 : ∀ x ∈ wsX120, x ∈ wsX12_isSound := fun _ h => (List.mem_cons_of_mem _ (List.mem_append_right _ h))
theorem pz_X12_sound_X120 : ∀ x ∈ wsX120, x ∈ wsX12_sound := fun _ h => (List.mem_cons_of_mem _ (List.mem_append_right _ h))
theorem pz_X12_goesOn_X120 : ∀ x ∈ wsX120, x ∈ wsX12_goesOn := fun _ h => (List.mem_cons_of_mem _ (List.mem_append_right _ h))
theorem dX0_init_0 : decode cX0_init 0 = .ok (.aload_n 0, 1) := by decide +kernel
theorem dX0_init_1 : decode cX0_init 1 = .ok (.invokespecial 3, 3) := by decide +kernel
theorem dX0_init_4 : decode cX0_init 4 = .ok (.aload_n 0, 1) := by decide +kernel
theorem dX0_init_5 : decode cX0_init 5 = .ok (.bipush 12, 2) := by decide +kernel
theorem dX0_init_7 : decode cX0_init 7 = .ok (.bipush 12, 2) := by decide +kernel
theorem dX0_init_9 : decode cX0_init 9 = .ok (.invokestatic 9, 3) := by decide +kernel
theorem dX0_init_12 : decode cX0_init 12 = .ok (.newarray .int, 2) := by decide +kernel
theorem dX0_init_14 : decode cX0_init 14 = .ok (.putfield 15, 3) := by decide +kernel
theorem dX0_init_17 : decode cX0_init 17 = .ok (.aload_n 0, 1) := by decide +kernel
theorem dX0_init_18 : decode cX0_init 18 = .ok (.iconst 0, 1) := by decide +kernel
theorem dX0_init_19 : decode cX0_init 19 = .ok (.putfield 21, 3) := by decide +kernel
theorem dX0_init_22 : decode cX0_init 22 = .ok (.aload_n 0, 1) := by decide +kernel
theorem dX0_init_23 : decode cX0_init 23 = .ok (.iconst 0, 1) := by decide +kernel
theorem dX0_init_24 : decode cX0_init 24 = .ok (.putfield 25, 3) := by decide +kernel
theorem dX0_init_27 : decode cX0_init 27 = .ok (.aload_n 0, 1) := by decide +kernel
theorem dX0_init_28 : decode cX0_init 28 = .ok (.iconst 0, 1) := by decide +kernel
theorem dX0_init_29 : decode cX0_init 29 = .ok (.putfield 28, 3) := by decide +kernel
theorem dX0_init_32 : decode cX0_init 32 = .ok (.aload_n 0, 1) := by decide +kernel
theorem dX0_init_33 : decode cX0_init 33 = .ok (.iconst 0, 1) := by decide +kernel
theorem dX0_init_34 : decode cX0_init 34 = .ok (.putfield 31, 3) := by decide +kernel
theorem dX0_init_37 : decode cX0_init 37 = .ok (.aload_n 0, 1) := by decide +kernel
theorem dX0_init_38 : decode cX0_init 38 = .ok (.iconst (-1), 1) := by decide +kernel
theorem dX0_init_39 : decode cX0_init 39 = .ok (.putfield 35, 3) := by decide +kernel
theorem dX0_init_42 : decode cX0_init 42 = .ok (.aload_n 0, 1) := by decide +kernel
theorem dX0_init_43 : decode cX0_init 43 = .ok (.iconst 1, 1) := by decide +kernel
theorem dX0_init_44 : decode cX0_init 44 = .ok (.iload_n 1, 1) := by decide +kernel
theorem dX0_init_45 : decode cX0_init 45 = .ok (.ishl, 1) := by decide +kernel
theorem dX0_init_46 : decode cX0_init 46 = .ok (.newarray .int, 2) := by decide +kernel
theorem dX0_init_48 : decode cX0_init 48 = .ok (.putfield 38, 3) := by decide +kernel
theorem dX0_init_51 : decode cX0_init 51 = .ok (.aload_n 0, 1) := by decide +kernel
theorem dX0_init_52 : decode cX0_init 52 = .ok (.iload_n 1, 1) := by decide +kernel
theorem dX0_init_53 : decode cX0_init 53 = .ok (.newarray .int, 2) := by decide +kernel
theorem dX0_init_55 : decode cX0_init 55 = .ok (.putfield 41, 3) := by decide +kernel
theorem dX0_init_58 : decode cX0_init 58 = .ok (.return_, 1) := by decide +kernel
theorem dX1_init_0 : decode cX1_init 0 = .ok (.aload_n 0, 1) := by decide +kernel
theorem dX1_init_1 : decode cX1_init 1 = .ok (.invokespecial 3, 3) := by decide +kernel
theorem dX1_init_4 : decode cX1_init 4 = .ok (.aload_n 0, 1) := by decide +kernel
theorem dX1_init_5 : decode cX1_init 5 = .ok (.bipush 12, 2) := by decide +kernel
theorem dX1_init_7 : decode cX1_init 7 = .ok (.newarray .int, 2) := by decide +kernel
theorem dX1_init_9 : decode cX1_init 9 = .ok (.putfield 9, 3) := by decide +kernel
theorem dX1_init_12 : decode cX1_init 12 = .ok (.aload_n 0, 1) := by decide +kernel
theorem dX1_init_13 : decode cX1_init 13 = .ok (.bipush 81, 2) := by decide +kernel
theorem dX1_init_15 : decode cX1_init 15 = .ok (.newarray .int, 2) := by decide +kernel
theorem dX1_init_17 : decode cX1_init 17 = .ok (.putfield 15, 3) := by decide +kernel
theorem dX1_init_20 : decode cX1_init 20 = .ok (.aload_n 0, 1) := by decide +kernel
theorem dX1_init_21 : decode cX1_init 21 = .ok (.bipush 12, 2) := by decide +kernel
theorem dX1_init_23 : decode cX1_init 23 = .ok (.newarray .int, 2) := by decide +kernel
theorem dX1_init_25 : decode cX1_init 25 = .ok (.putfield 18, 3) := by decide +kernel
theorem dX1_init_28 : decode cX1_init 28 = .ok (.aload_n 0, 1) := by decide +kernel
theorem dX1_init_29 : decode cX1_init 29 = .ok (.bipush 12, 2) := by decide +kernel
theorem dX1_init_31 : decode cX1_init 31 = .ok (.newarray .int, 2) := by decide +kernel
theorem dX1_init_33 : decode cX1_init 33 = .ok (.putfield 21, 3) := by decide +kernel
theorem dX1_init_36 : decode cX1_init 36 = .ok (.aload_n 0, 1) := by decide +kernel
theorem dX1_init_37 : decode cX1_init 37 = .ok (.iconst 0, 1) := by decide +kernel
theorem dX1_init_38 : decode cX1_init 38 = .ok (.putfield 24, 3) := by decide +kernel
theorem dX1_init_41 : decode cX1_init 41 = .ok (.aload_n 0, 1) := by decide +kernel
theorem dX1_init_42 : decode cX1_init 42 = .ok (.iconst (-1), 1) := by decide +kernel
theorem dX1_init_43 : decode cX1_init 43 = .ok (.putfield 28, 3) := by decide +kernel
theorem dX1_init_46 : decode cX1_init 46 = .ok (.aload_n 0, 1) := by decide +kernel
theorem dX1_init_47 : decode cX1_init 47 = .ok (.iconst (-1), 1) := by decide +kernel
theorem dX1_init_48 : decode cX1_init 48 = .ok (.putfield 31, 3) := by decide +kernel
theorem dX1_init_51 : decode cX1_init 51 = .ok (.aload_n 0, 1) := by decide +kernel
theorem dX1_init_52 : decode cX1_init 52 = .ok (.iload_n 1, 1) := by decide +kernel
theorem dX1_init_53 : decode cX1_init 53 = .ok (.putfield 34, 3) := by decide +kernel
theorem dX1_init_56 : decode cX1_init 56 = .ok (.return_, 1) := by decide +kernel
theorem dX2_init_0 : decode cX2_init 0 = .ok (.aload_n 0, 1) := by decide +kernel
theorem dX2_init_1 : decode cX2_init 1 = .ok (.invokespecial 3, 3) := by decide +kernel
theorem dX2_init_4 : decode cX2_init 4 = .ok (.aload_n 0, 1) := by decide +kernel
theorem dX2_init_5 : decode cX2_init 5 = .ok (.bipush 12, 2) := by decide +kernel
theorem dX2_init_7 : decode cX2_init 7 = .ok (.bipush 12, 2) := by decide +kernel
theorem dX2_init_9 : decode cX2_init 9 = .ok (.multianewarray 9 2, 4) := by decide +kernel
theorem dX2_init_13 : decode cX2_init 13 = .ok (.putfield 11, 3) := by decide +kernel
theorem dX2_init_16 : decode cX2_init 16 = .ok (.aload_n 0, 1) := by decide +kernel
theorem dX2_init_17 : decode cX2_init 17 = .ok (.iconst 3, 1) := by decide +kernel
theorem dX2_init_18 : decode cX2_init 18 = .ok (.newarray .int, 2) := by decide +kernel
theorem dX2_init_20 : decode cX2_init 20 = .ok (.putfield 16, 3) := by decide +kernel
theorem dX2_init_23 : decode cX2_init 23 = .ok (.aload_n 0, 1) := by decide +kernel
theorem dX2_init_24 : decode cX2_init 24 = .ok (.iconst 0, 1) := by decide +kernel
theorem dX2_init_25 : decode cX2_init 25 = .ok (.putfield 20, 3) := by decide +kernel
theorem dX2_init_28 : decode cX2_init 28 = .ok (.aload_n 0, 1) := by decide +kernel
theorem dX2_init_29 : decode cX2_init 29 = .ok (.iconst (-1), 1) := by decide +kernel
theorem dX2_init_30 : decode cX2_init 30 = .ok (.putfield 24, 3) := by decide +kernel
theorem dX2_init_33 : decode cX2_init 33 = .ok (.return_, 1) := by decide +kernel
theorem dX3_init_0 : decode cX3_init 0 = .ok (.aload_n 0, 1) := by decide +kernel
theorem dX3_init_1 : decode cX3_init 1 = .ok (.invokespecial 3, 3) := by decide +kernel
theorem dX3_init_4 : decode cX3_init 4 = .ok (.aload_n 0, 1) := by decide +kernel
theorem dX3_init_5 : decode cX3_init 5 = .ok (.bipush 13, 2) := by decide +kernel
theorem dX3_init_7 : decode cX3_init 7 = .ok (.bipush 12, 2) := by decide +kernel
theorem dX3_init_9 : decode cX3_init 9 = .ok (.multianewarray 9 2, 4) := by decide +kernel
theorem dX3_init_13 : decode cX3_init 13 = .ok (.putfield 11, 3) := by decide +kernel
theorem dX3_init_16 : decode cX3_init 16 = .ok (.aload_n 0, 1) := by decide +kernel
theorem dX3_init_17 : decode cX3_init 17 = .ok (.iconst 0, 1) := by decide +kernel
theorem dX3_init_18 : decode cX3_init 18 = .ok (.putfield 16, 3) := by decide +kernel
theorem dX3_init_21 : decode cX3_init 21 = .ok (.return_, 1) := by decide +kernel
theorem dX4_init_0 : decode cX4_init 0 = .ok (.aload_n 0, 1) := by decide +kernel
theorem dX4_init_1 : decode cX4_init 1 = .ok (.invokespecial 3, 3) := by decide +kernel
theorem dX4_init_4 : decode cX4_init 4 = .ok (.aload_n 0, 1) := by decide +kernel
theorem dX4_init_5 : decode cX4_init 5 = .ok (.bipush 12, 2) := by decide +kernel
theorem dX4_init_7 : decode cX4_init 7 = .ok (.newarray .int, 2) := by decide +kernel
theorem dX4_init_9 : decode cX4_init 9 = .ok (.putfield 9, 3) := by decide +kernel
theorem dX4_init_12 : decode cX4_init 12 = .ok (.aload_n 0, 1) := by decide +kernel
theorem dX4_init_13 : decode cX4_init 13 = .ok (.iconst 0, 1) := by decide +kernel
theorem dX4_init_14 : decode cX4_init 14 = .ok (.putfield 15, 3) := by decide +kernel
theorem dX4_init_17 : decode cX4_init 17 = .ok (.aload_n 0, 1) := by decide +kernel
theorem dX4_init_18 : decode cX4_init 18 = .ok (.iconst 0, 1) := by decide +kernel
theorem dX4_init_19 : decode cX4_init 19 = .ok (.putfield 19, 3) := by decide +kernel
theorem dX4_init_22 : decode cX4_init 22 = .ok (.return_, 1) := by decide +kernel
set_option maxRecDepth 20000 in
theorem ggX5_init_X3_init : GoodIn wsX5_init wsX3_init := goodIn_sub (gi_c 16 rfl (gi_a (gi_c 17 rfl (gi_c 2 rfl (gi_c 3 rfl (gi_c 18 rfl (gi_c 8 rfl (gi_c 19 rfl (gi_c 20 rfl gi_n))))))) pz_X5_init_X30)) (by decide +kernel)
set_option maxRecDepth 20000 in
theorem gX5_init_X3_init_n11 : GoodIn wsX5_init (wsX3_init) := ggX5_init_X3_init
theorem dX5_init_0 : decode cX5_init 0 = .ok (.aload_n 0, 1) := by decide +kernel
theorem dX5_init_1 : decode cX5_init 1 = .ok (.invokespecial 3, 3) := by decide +kernel
theorem dX5_init_4 : decode cX5_init 4 = .ok (.aload_n 0, 1) := by decide +kernel
theorem dX5_init_5 : decode cX5_init 5 = .ok (.new 9, 3) := by decide +kernel
theorem dX5_init_8 : decode cX5_init 8 = .ok (.dup, 1) := by decide +kernel
theorem dX5_init_9 : decode cX5_init 9 = .ok (.invokespecial 11, 3) := by decide +kernel
theorem dX5_init_12 : decode cX5_init 12 = .ok (.putfield 12, 3) := by decide +kernel
theorem dX5_init_15 : decode cX5_init 15 = .ok (.aload_n 0, 1) := by decide +kernel
theorem dX5_init_16 : decode cX5_init 16 = .ok (.sipush 4096, 3) := by decide +kernel
theorem dX5_init_19 : decode cX5_init 19 = .ok (.newarray .int, 2) := by decide +kernel
theorem dX5_init_21 : decode cX5_init 21 = .ok (.putfield 18, 3) := by decide +kernel
theorem dX5_init_24 : decode cX5_init 24 = .ok (.aload_n 0, 1) := by decide +kernel
theorem dX5_init_25 : decode cX5_init 25 = .ok (.bipush 12, 2) := by decide +kernel
theorem dX5_init_27 : decode cX5_init 27 = .ok (.bipush 12, 2) := by decide +kernel
theorem dX5_init_29 : decode cX5_init 29 = .ok (.multianewarray 22 2, 4) := by decide +kernel
theorem dX5_init_33 : decode cX5_init 33 = .ok (.putfield 24, 3) := by decide +kernel
theorem dX5_init_36 : decode cX5_init 36 = .ok (.aload_n 0, 1) := by decide +kernel
theorem dX5_init_37 : decode cX5_init 37 = .ok (.iconst 0, 1) := by decide +kernel
theorem dX5_init_38 : decode cX5_init 38 = .ok (.putfield 27, 3) := by decide +kernel
theorem dX5_init_41 : decode cX5_init 41 = .ok (.aload_n 0, 1) := by decide +kernel
theorem dX5_init_42 : decode cX5_init 42 = .ok (.iconst 0, 1) := by decide +kernel
theorem dX5_init_43 : decode cX5_init 43 = .ok (.putfield 31, 3) := by decide +kernel
theorem dX5_init_46 : decode cX5_init 46 = .ok (.aload_n 0, 1) := by decide +kernel
theorem dX5_init_47 : decode cX5_init 47 = .ok (.iconst 0, 1) := by decide +kernel
theorem dX5_init_48 : decode cX5_init 48 = .ok (.putfield 34, 3) := by decide +kernel
theorem dX5_init_51 : decode cX5_init 51 = .ok (.return_, 1) := by decide +kernel
set_option maxRecDepth 20000 in
theorem ggX6_init_X3_init : GoodIn wsX6_init wsX3_init := goodIn_sub (gi_t pz_X6_init_X6_init_r1 20 rfl (gi_a (gi_t pz_X6_init_X6_init_r1 21 rfl (gi_t pz_X6_init_X6_init_r1 1 rfl (gi_t pz_X6_init_X6_init_r1 2 rfl (gi_t pz_X6_init_X6_init_r1 22 rfl (gi_t pz_X6_init_X6_init_r1 11 rfl (gi_t pz_X6_init_X6_init_r1 23 rfl (gi_t pz_X6_init_X6_init_r2 0 rfl gi_n))))))) pz_X6_init_X30)) (by decide +kernel)
set_option maxRecDepth 20000 in
theorem gX6_init_X3_init_n11 : GoodIn wsX6_init (wsX3_init) := ggX6_init_X3_init
set_option maxRecDepth 20000 in
theorem ggX6_init_X5_init : GoodIn wsX6_init wsX5_init := goodIn_sub (gi_t pz_X6_init_X6_init_r2 2 rfl (gi_a (gi_a (gi_t pz_X6_init_X6_init_r2 3 rfl (gi_t pz_X6_init_X6_init_r1 1 rfl (gi_t pz_X6_init_X6_init_r1 2 rfl (gi_t pz_X6_init_X6_init_r2 4 rfl (gi_t pz_X6_init_X6_init_r1 4 rfl (gi_t pz_X6_init_X6_init_r1 5 rfl (gi_t pz_X6_init_X6_init_r2 5 rfl (gi_t pz_X6_init_X6_init_r1 11 rfl (gi_t pz_X6_init_X6_init_r2 6 rfl (gi_t pz_X6_init_X6_init_r2 7 rfl (gi_t pz_X6_init_X6_init_r2 8 rfl (gi_t pz_X6_init_X6_init_r2 9 rfl (gi_t pz_X6_init_X6_init_r2 10 rfl (gi_t pz_X6_init_X6_init_r2 11 rfl (gi_t pz_X6_init_X6_init_r1 19 rfl (gi_t pz_X6_init_X6_init_r1 20 rfl (gi_t pz_X6_init_X6_init_r1 21 rfl (gi_t pz_X6_init_X6_init_r1 22 rfl (gi_t pz_X6_init_X6_init_r1 23 rfl (gi_t pz_X6_init_X6_init_r2 0 rfl gi_n)))))))))))))))))))) pz_X6_init_X30) pz_X6_init_X50)) (by decide +kernel)
set_option maxRecDepth 20000 in
theorem gX6_init_X5_init_n20 : GoodIn wsX6_init (wsX5_init) := ggX6_init_X5_init
theorem dX6_init_0 : decode cX6_init 0 = .ok (.aload_n 0, 1) := by decide +kernel
theorem dX6_init_1 : decode cX6_init 1 = .ok (.invokespecial 3, 3) := by decide +kernel
theorem dX6_init_4 : decode cX6_init 4 = .ok (.aload_n 0, 1) := by decide +kernel
theorem dX6_init_5 : decode cX6_init 5 = .ok (.new 9, 3) := by decide +kernel
theorem dX6_init_8 : decode cX6_init 8 = .ok (.dup, 1) := by decide +kernel
theorem dX6_init_9 : decode cX6_init 9 = .ok (.invokespecial 11, 3) := by decide +kernel
theorem dX6_init_12 : decode cX6_init 12 = .ok (.putfield 12, 3) := by decide +kernel
theorem dX6_init_15 : decode cX6_init 15 = .ok (.aload_n 0, 1) := by decide +kernel
theorem dX6_init_16 : decode cX6_init 16 = .ok (.new 18, 3) := by decide +kernel
theorem dX6_init_19 : decode cX6_init 19 = .ok (.dup, 1) := by decide +kernel
theorem dX6_init_20 : decode cX6_init 20 = .ok (.invokespecial 20, 3) := by decide +kernel
theorem dX6_init_23 : decode cX6_init 23 = .ok (.putfield 21, 3) := by decide +kernel
theorem dX6_init_26 : decode cX6_init 26 = .ok (.aload_n 0, 1) := by decide +kernel
theorem dX6_init_27 : decode cX6_init 27 = .ok (.bipush 12, 2) := by decide +kernel
theorem dX6_init_29 : decode cX6_init 29 = .ok (.newarray .int, 2) := by decide +kernel
theorem dX6_init_31 : decode cX6_init 31 = .ok (.putfield 25, 3) := by decide +kernel
theorem dX6_init_34 : decode cX6_init 34 = .ok (.aload_n 0, 1) := by decide +kernel
theorem dX6_init_35 : decode cX6_init 35 = .ok (.bipush 12, 2) := by decide +kernel
theorem dX6_init_37 : decode cX6_init 37 = .ok (.newarray .int, 2) := by decide +kernel
theorem dX6_init_39 : decode cX6_init 39 = .ok (.putfield 29, 3) := by decide +kernel
theorem dX6_init_42 : decode cX6_init 42 = .ok (.aload_n 0, 1) := by decide +kernel
theorem dX6_init_43 : decode cX6_init 43 = .ok (.iconst 0, 1) := by decide +kernel
theorem dX6_init_44 : decode cX6_init 44 = .ok (.putfield 32, 3) := by decide +kernel
theorem dX6_init_47 : decode cX6_init 47 = .ok (.aload_n 0, 1) := by decide +kernel
theorem dX6_init_48 : decode cX6_init 48 = .ok (.iconst 0, 1) := by decide +kernel
theorem dX6_init_49 : decode cX6_init 49 = .ok (.putfield 36, 3) := by decide +kernel
theorem dX6_init_52 : decode cX6_init 52 = .ok (.aload_n 0, 1) := by decide +kernel
theorem dX6_init_53 : decode cX6_init 53 = .ok (.iconst 0, 1) := by decide +kernel
theorem dX6_init_54 : decode cX6_init 54 = .ok (.putfield 39, 3) := by decide +kernel
theorem dX6_init_57 : decode cX6_init 57 = .ok (.aload_n 0, 1) := by decide +kernel
theorem dX6_init_58 : decode cX6_init 58 = .ok (.iconst 0, 1) := by decide +kernel
theorem dX6_init_59 : decode cX6_init 59 = .ok (.putfield 43, 3) := by decide +kernel
theorem dX6_init_62 : decode cX6_init 62 = .ok (.aload_n 0, 1) := by decide +kernel
theorem dX6_init_63 : decode cX6_init 63 = .ok (.iconst 0, 1) := by decide +kernel
theorem dX6_init_64 : decode cX6_init 64 = .ok (.putfield 46, 3) := by decide +kernel
theorem dX6_init_67 : decode cX6_init 67 = .ok (.return_, 1) := by decide +kernel
theorem dX7_init_0 : decode cX7_init 0 = .ok (.aload_n 0, 1) := by decide +kernel
theorem dX7_init_1 : decode cX7_init 1 = .ok (.invokespecial 3, 3) := by decide +kernel
theorem dX7_init_4 : decode cX7_init 4 = .ok (.aload_n 0, 1) := by decide +kernel
theorem dX7_init_5 : decode cX7_init 5 = .ok (.bipush 12, 2) := by decide +kernel
theorem dX7_init_7 : decode cX7_init 7 = .ok (.newarray .int, 2) := by decide +kernel
theorem dX7_init_9 : decode cX7_init 9 = .ok (.putfield 9, 3) := by decide +kernel
theorem dX7_init_12 : decode cX7_init 12 = .ok (.aload_n 0, 1) := by decide +kernel
theorem dX7_init_13 : decode cX7_init 13 = .ok (.bipush 12, 2) := by decide +kernel
theorem dX7_init_15 : decode cX7_init 15 = .ok (.newarray .int, 2) := by decide +kernel
theorem dX7_init_17 : decode cX7_init 17 = .ok (.putfield 15, 3) := by decide +kernel
theorem dX7_init_20 : decode cX7_init 20 = .ok (.aload_n 0, 1) := by decide +kernel
theorem dX7_init_21 : decode cX7_init 21 = .ok (.iconst 0, 1) := by decide +kernel
theorem dX7_init_22 : decode cX7_init 22 = .ok (.putfield 18, 3) := by decide +kernel
theorem dX7_init_25 : decode cX7_init 25 = .ok (.aload_n 0, 1) := by decide +kernel
theorem dX7_init_26 : decode cX7_init 26 = .ok (.iconst (-1), 1) := by decide +kernel
theorem dX7_init_27 : decode cX7_init 27 = .ok (.putfield 22, 3) := by decide +kernel
theorem dX7_init_30 : decode cX7_init 30 = .ok (.return_, 1) := by decide +kernel
theorem dX8_init_0 : decode cX8_init 0 = .ok (.aload_n 0, 1) := by decide +kernel
theorem dX8_init_1 : decode cX8_init 1 = .ok (.invokespecial 3, 3) := by decide +kernel
theorem dX8_init_4 : decode cX8_init 4 = .ok (.aload_n 0, 1) := by decide +kernel
theorem dX8_init_5 : decode cX8_init 5 = .ok (.sipush 252, 3) := by decide +kernel
theorem dX8_init_8 : decode cX8_init 8 = .ok (.newarray .int, 2) := by decide +kernel
theorem dX8_init_10 : decode cX8_init 10 = .ok (.putfield 9, 3) := by decide +kernel
theorem dX8_init_13 : decode cX8_init 13 = .ok (.aload_n 0, 1) := by decide +kernel
theorem dX8_init_14 : decode cX8_init 14 = .ok (.iconst 0, 1) := by decide +kernel
theorem dX8_init_15 : decode cX8_init 15 = .ok (.putfield 15, 3) := by decide +kernel
theorem dX8_init_18 : decode cX8_init 18 = .ok (.aload_n 0, 1) := by decide +kernel
theorem dX8_init_19 : decode cX8_init 19 = .ok (.iconst (-1), 1) := by decide +kernel
theorem dX8_init_20 : decode cX8_init 20 = .ok (.putfield 19, 3) := by decide +kernel
theorem dX8_init_23 : decode cX8_init 23 = .ok (.aload_n 0, 1) := by decide +kernel
theorem dX8_init_24 : decode cX8_init 24 = .ok (.iconst (-1), 1) := by decide +kernel
theorem dX8_init_25 : decode cX8_init 25 = .ok (.putfield 22, 3) := by decide +kernel
theorem dX8_init_28 : decode cX8_init 28 = .ok (.aload_n 0, 1) := by decide +kernel
theorem dX8_init_29 : decode cX8_init 29 = .ok (.iconst (-1), 1) := by decide +kernel
theorem dX8_init_30 : decode cX8_init 30 = .ok (.putfield 25, 3) := by decide +kernel
theorem dX8_init_33 : decode cX8_init 33 = .ok (.return_, 1) := by decide +kernel
set_option maxRecDepth 20000 in
theorem ggX9_init_X3_init : GoodIn wsX9_init wsX3_init := goodIn_sub (gi_c 13 rfl (gi_a (gi_c 14 rfl (gi_c 2 rfl (gi_c 3 rfl (gi_c 15 rfl (gi_c 8 rfl (gi_c 16 rfl (gi_c 17 rfl gi_n))))))) pz_X9_init_X30)) (by decide +kernel)
set_option maxRecDepth 20000 in
theorem gX9_init_X3_init_n11 : GoodIn wsX9_init (wsX3_init) := ggX9_init_X3_init
theorem dX9_init_0 : decode cX9_init 0 = .ok (.aload_n 0, 1) := by decide +kernel
theorem dX9_init_1 : decode cX9_init 1 = .ok (.invokespecial 3, 3) := by decide +kernel
theorem dX9_init_4 : decode cX9_init 4 = .ok (.aload_n 0, 1) := by decide +kernel
theorem dX9_init_5 : decode cX9_init 5 = .ok (.new 9, 3) := by decide +kernel
theorem dX9_init_8 : decode cX9_init 8 = .ok (.dup, 1) := by decide +kernel
theorem dX9_init_9 : decode cX9_init 9 = .ok (.invokespecial 11, 3) := by decide +kernel
theorem dX9_init_12 : decode cX9_init 12 = .ok (.putfield 12, 3) := by decide +kernel
theorem dX9_init_15 : decode cX9_init 15 = .ok (.aload_n 0, 1) := by decide +kernel
theorem dX9_init_16 : decode cX9_init 16 = .ok (.bipush 12, 2) := by decide +kernel
theorem dX9_init_18 : decode cX9_init 18 = .ok (.newarray .int, 2) := by decide +kernel
theorem dX9_init_20 : decode cX9_init 20 = .ok (.putfield 18, 3) := by decide +kernel
theorem dX9_init_23 : decode cX9_init 23 = .ok (.aload_n 0, 1) := by decide +kernel
theorem dX9_init_24 : decode cX9_init 24 = .ok (.iconst 0, 1) := by decide +kernel
theorem dX9_init_25 : decode cX9_init 25 = .ok (.putfield 22, 3) := by decide +kernel
theorem dX9_init_28 : decode cX9_init 28 = .ok (.aload_n 0, 1) := by decide +kernel
theorem dX9_init_29 : decode cX9_init 29 = .ok (.iconst (-1), 1) := by decide +kernel
theorem dX9_init_30 : decode cX9_init 30 = .ok (.putfield 26, 3) := by decide +kernel
theorem dX9_init_33 : decode cX9_init 33 = .ok (.return_, 1) := by decide +kernel
set_option maxRecDepth 20000 in
theorem ggX10_init_J7_fill_53178 : GoodIn wsX10_init wsJ7_fill_53178 := goodIn_sub (gi_c 11 rfl gi_n) (by decide +kernel)
set_option maxRecDepth 20000 in
theorem gX10_init_J7_fill_53178 : GoodIn wsX10_init (va_wsS RX10 22 yJ7_fill_53178 wsJ7_fill_53178) := goodIn_app (goodIn_of _ (by decide +kernel)) ggX10_init_J7_fill_53178
theorem dX10_init_0 : decode cX10_init 0 = .ok (.aload_n 0, 1) := by decide +kernel
theorem dX10_init_1 : decode cX10_init 1 = .ok (.invokespecial 3, 3) := by decide +kernel
theorem dX10_init_4 : decode cX10_init 4 = .ok (.aload_n 0, 1) := by decide +kernel
theorem dX10_init_5 : decode cX10_init 5 = .ok (.bipush 12, 2) := by decide +kernel
theorem dX10_init_7 : decode cX10_init 7 = .ok (.newarray .int, 2) := by decide +kernel
theorem dX10_init_9 : decode cX10_init 9 = .ok (.putfield 9, 3) := by decide +kernel
theorem dX10_init_12 : decode cX10_init 12 = .ok (.aload_n 0, 1) := by decide +kernel
theorem dX10_init_13 : decode cX10_init 13 = .ok (.iconst 0, 1) := by decide +kernel
theorem dX10_init_14 : decode cX10_init 14 = .ok (.putfield 15, 3) := by decide +kernel
theorem dX10_init_17 : decode cX10_init 17 = .ok (.aload_n 0, 1) := by decide +kernel
theorem dX10_init_18 : decode cX10_init 18 = .ok (.iconst 0, 1) := by decide +kernel
theorem dX10_init_19 : decode cX10_init 19 = .ok (.putfield 19, 3) := by decide +kernel
theorem dX10_init_22 : decode cX10_init 22 = .ok (.aload_n 0, 1) := by decide +kernel
theorem dX10_init_23 : decode cX10_init 23 = .ok (.getfield 9, 3) := by decide +kernel
theorem dX10_init_26 : decode cX10_init 26 = .ok (.iconst (-1), 1) := by decide +kernel
theorem dX10_init_27 : decode cX10_init 27 = .ok (.invokestatic 22, 3) := by decide +kernel
theorem dX10_init_30 : decode cX10_init 30 = .ok (.return_, 1) := by decide +kernel
set_option maxRecDepth 20000 in
theorem ggX11_init_X4_init : GoodIn wsX11_init wsX4_init := goodIn_sub (gi_t pz_X11_init_X11_init_r2 21 rfl (gi_a (gi_t pz_X11_init_X11_init_r2 22 rfl (gi_t pz_X11_init_X11_init_r1 1 rfl (gi_t pz_X11_init_X11_init_r1 2 rfl (gi_t pz_X11_init_X11_init_r2 17 rfl (gi_t pz_X11_init_X11_init_r2 23 rfl (gi_t pz_X11_init_X11_init_r3 0 rfl (gi_t pz_X11_init_X11_init_r3 1 rfl gi_n))))))) pz_X11_init_X40)) (by decide +kernel)
set_option maxRecDepth 20000 in
theorem gX11_init_X4_init_n9 : GoodIn wsX11_init (wsX4_init) := ggX11_init_X4_init
set_option maxRecDepth 20000 in
theorem ggX11_init_X10_init : GoodIn wsX11_init wsX10_init := goodIn_sub (gi_t pz_X11_init_X11_init_r3 3 rfl (gi_a (gi_t pz_X11_init_X11_init_r3 4 rfl (gi_t pz_X11_init_X11_init_r1 1 rfl (gi_t pz_X11_init_X11_init_r1 2 rfl (gi_t pz_X11_init_X11_init_r2 17 rfl (gi_t pz_X11_init_X11_init_r3 5 rfl (gi_t pz_X11_init_X11_init_r3 6 rfl (gi_t pz_X11_init_X11_init_r3 7 rfl (gi_t pz_X11_init_X11_init_r3 8 rfl (gi_t pz_X11_init_X11_init_r3 9 rfl (gi_t pz_X11_init_X11_init_r3 10 rfl (gi_t pz_X11_init_X11_init_r3 11 rfl gi_n))))))))))) pz_X11_init_X100)) (by decide +kernel)
set_option maxRecDepth 20000 in
theorem gX11_init_X10_init_n18 : GoodIn wsX11_init (wsX10_init) := ggX11_init_X10_init
set_option maxRecDepth 20000 in
theorem ggX11_init_X6_init : GoodIn wsX11_init wsX6_init := goodIn_sub (gi_t pz_X11_init_X11_init_r3 13 rfl (gi_a (gi_a (gi_a (gi_a (gi_t pz_X11_init_X11_init_r3 14 rfl (gi_t pz_X11_init_X11_init_r1 1 rfl (gi_t pz_X11_init_X11_init_r1 2 rfl (gi_t pz_X11_init_X11_init_r3 15 rfl (gi_t pz_X11_init_X11_init_r3 16 rfl (gi_t pz_X11_init_X11_init_r3 17 rfl (gi_t pz_X11_init_X11_init_r3 18 rfl (gi_t pz_X11_init_X11_init_r3 19 rfl (gi_t pz_X11_init_X11_init_r3 20 rfl (gi_t pz_X11_init_X11_init_r3 21 rfl (gi_t pz_X11_init_X11_init_r3 22 rfl (gi_t pz_X11_init_X11_init_r2 17 rfl (gi_t pz_X11_init_X11_init_r3 23 rfl (gi_t pz_X11_init_X11_init_r4 0 rfl (gi_t pz_X11_init_X11_init_r4 1 rfl (gi_t pz_X11_init_X11_init_r4 2 rfl (gi_t pz_X11_init_X11_init_r4 3 rfl (gi_t pz_X11_init_X11_init_r4 4 rfl (gi_t pz_X11_init_X11_init_r4 5 rfl (gi_t pz_X11_init_X11_init_r4 6 rfl (gi_t pz_X11_init_X11_init_r4 7 rfl (gi_t pz_X11_init_X11_init_r4 8 rfl (gi_t pz_X11_init_X11_init_r4 9 rfl (gi_t pz_X11_init_X11_init_r4 10 rfl gi_n)))))))))))))))))))))))) (gi_t pz_X11_init_X11_init_r4 11 rfl (gi_t pz_X11_init_X11_init_r4 12 rfl (gi_t pz_X11_init_X11_init_r4 13 rfl (gi_t pz_X11_init_X11_init_r4 14 rfl (gi_t pz_X11_init_X11_init_r4 15 rfl (gi_t pz_X11_init_X11_init_r4 16 rfl (gi_t pz_X11_init_X11_init_r4 17 rfl (gi_t pz_X11_init_X11_init_r4 18 rfl (gi_t pz_X11_init_X11_init_r4 19 rfl (gi_t pz_X11_init_X11_init_r4 20 rfl (gi_t pz_X11_init_X11_init_r4 21 rfl (gi_t pz_X11_init_X11_init_r4 22 rfl gi_n))))))))))))) pz_X11_init_X30) pz_X11_init_X60) pz_X11_init_X50)) (by decide +kernel)
set_option maxRecDepth 20000 in
theorem gX11_init_X6_init_n25 : GoodIn wsX11_init (wsX6_init) := ggX11_init_X6_init
set_option maxRecDepth 20000 in
theorem ggX11_init_X9_init : GoodIn wsX11_init wsX9_init := goodIn_sub (gi_t pz_X11_init_X11_init_r5 0 rfl (gi_a (gi_a (gi_t pz_X11_init_X11_init_r5 1 rfl (gi_t pz_X11_init_X11_init_r1 1 rfl (gi_t pz_X11_init_X11_init_r1 2 rfl (gi_t pz_X11_init_X11_init_r5 2 rfl (gi_t pz_X11_init_X11_init_r3 16 rfl (gi_t pz_X11_init_X11_init_r3 17 rfl (gi_t pz_X11_init_X11_init_r5 3 rfl (gi_t pz_X11_init_X11_init_r2 17 rfl (gi_t pz_X11_init_X11_init_r5 4 rfl (gi_t pz_X11_init_X11_init_r5 5 rfl (gi_t pz_X11_init_X11_init_r5 6 rfl (gi_t pz_X11_init_X11_init_r4 6 rfl (gi_t pz_X11_init_X11_init_r4 7 rfl (gi_t pz_X11_init_X11_init_r4 8 rfl (gi_t pz_X11_init_X11_init_r4 9 rfl (gi_t pz_X11_init_X11_init_r4 10 rfl (gi_t pz_X11_init_X11_init_r4 11 rfl gi_n))))))))))))))))) pz_X11_init_X30) pz_X11_init_X90)) (by decide +kernel)
set_option maxRecDepth 20000 in
theorem gX11_init_X9_init_n32 : GoodIn wsX11_init (wsX9_init) := ggX11_init_X9_init
set_option maxRecDepth 20000 in
theorem ggX11_init_X1_init : GoodIn wsX11_init wsX1_init := goodIn_sub (gi_t pz_X11_init_X11_init_r5 8 rfl (gi_a (gi_t pz_X11_init_X11_init_r5 9 rfl (gi_t pz_X11_init_X11_init_r1 1 rfl (gi_t pz_X11_init_X11_init_r1 2 rfl (gi_t pz_X11_init_X11_init_r2 17 rfl (gi_t pz_X11_init_X11_init_r5 10 rfl (gi_t pz_X11_init_X11_init_r5 11 rfl (gi_t pz_X11_init_X11_init_r5 12 rfl (gi_t pz_X11_init_X11_init_r5 13 rfl (gi_t pz_X11_init_X11_init_r5 14 rfl (gi_t pz_X11_init_X11_init_r5 15 rfl (gi_t pz_X11_init_X11_init_r5 16 rfl (gi_t pz_X11_init_X11_init_r5 17 rfl gi_n)))))))))))) pz_X11_init_X10)) (by decide +kernel)
set_option maxRecDepth 20000 in
theorem gX11_init_X1_init_n39 : GoodIn wsX11_init (wsX1_init) := ggX11_init_X1_init
set_option maxRecDepth 20000 in
theorem ggX11_init_X7_init : GoodIn wsX11_init wsX7_init := goodIn_sub (gi_t pz_X11_init_X11_init_r5 19 rfl (gi_a (gi_t pz_X11_init_X11_init_r5 20 rfl (gi_t pz_X11_init_X11_init_r1 1 rfl (gi_t pz_X11_init_X11_init_r1 2 rfl (gi_t pz_X11_init_X11_init_r2 17 rfl (gi_t pz_X11_init_X11_init_r5 21 rfl (gi_t pz_X11_init_X11_init_r5 22 rfl (gi_t pz_X11_init_X11_init_r5 23 rfl (gi_t pz_X11_init_X11_init_r6 0 rfl gi_n)))))))) pz_X11_init_X70)) (by decide +kernel)
set_option maxRecDepth 20000 in
theorem gX11_init_X7_init_n51 : GoodIn wsX11_init (wsX7_init) := ggX11_init_X7_init
set_option maxRecDepth 20000 in
theorem ggX11_init_X8_init : GoodIn wsX11_init wsX8_init := goodIn_sub (gi_t pz_X11_init_X11_init_r6 2 rfl (gi_a (gi_t pz_X11_init_X11_init_r6 3 rfl (gi_t pz_X11_init_X11_init_r1 1 rfl (gi_t pz_X11_init_X11_init_r1 2 rfl (gi_t pz_X11_init_X11_init_r2 17 rfl (gi_t pz_X11_init_X11_init_r6 4 rfl (gi_t pz_X11_init_X11_init_r6 5 rfl (gi_t pz_X11_init_X11_init_r6 6 rfl (gi_t pz_X11_init_X11_init_r6 7 rfl (gi_t pz_X11_init_X11_init_r6 8 rfl gi_n))))))))) pz_X11_init_X80)) (by decide +kernel)
set_option maxRecDepth 20000 in
theorem gX11_init_X8_init_n58 : GoodIn wsX11_init (wsX8_init) := ggX11_init_X8_init
set_option maxRecDepth 20000 in
theorem ggX11_init_X2_init : GoodIn wsX11_init wsX2_init := goodIn_sub (gi_t pz_X11_init_X11_init_r6 10 rfl (gi_a (gi_t pz_X11_init_X11_init_r6 11 rfl (gi_t pz_X11_init_X11_init_r1 1 rfl (gi_t pz_X11_init_X11_init_r1 2 rfl (gi_t pz_X11_init_X11_init_r6 12 rfl (gi_t pz_X11_init_X11_init_r2 17 rfl (gi_t pz_X11_init_X11_init_r6 13 rfl (gi_t pz_X11_init_X11_init_r6 14 rfl (gi_t pz_X11_init_X11_init_r6 15 rfl (gi_t pz_X11_init_X11_init_r6 16 rfl gi_n))))))))) pz_X11_init_X20)) (by decide +kernel)
set_option maxRecDepth 20000 in
theorem gX11_init_X2_init_n65 : GoodIn wsX11_init (wsX2_init) := ggX11_init_X2_init
set_option maxRecDepth 20000 in
theorem ggX11_init_X0_init : GoodIn wsX11_init wsX0_init := goodIn_sub (gi_t pz_X11_init_X11_init_r6 18 rfl (gi_a (gi_t pz_X11_init_X11_init_r6 19 rfl (gi_t pz_X11_init_X11_init_r1 1 rfl (gi_t pz_X11_init_X11_init_r1 2 rfl (gi_t pz_X11_init_X11_init_r6 20 rfl (gi_t pz_X11_init_X11_init_r6 21 rfl (gi_t pz_X11_init_X11_init_r6 22 rfl (gi_t pz_X11_init_X11_init_r6 23 rfl (gi_t pz_X11_init_X11_init_r2 17 rfl (gi_t pz_X11_init_X11_init_r7 0 rfl (gi_t pz_X11_init_X11_init_r7 1 rfl (gi_t pz_X11_init_X11_init_r7 2 rfl (gi_t pz_X11_init_X11_init_r7 3 rfl (gi_t pz_X11_init_X11_init_r7 4 rfl (gi_t pz_X11_init_X11_init_r7 5 rfl (gi_t pz_X11_init_X11_init_r7 6 rfl (gi_t pz_X11_init_X11_init_r7 7 rfl gi_n)))))))))))))))) pz_X11_init_X00)) (by decide +kernel)
set_option maxRecDepth 20000 in
theorem gX11_init_X0_init_n72 : GoodIn wsX11_init (wsX0_init) := ggX11_init_X0_init
theorem dX11_init_0 : decode cX11_init 0 = .ok (.aload_n 0, 1) := by decide +kernel
theorem dX11_init_1 : decode cX11_init 1 = .ok (.invokespecial 1, 3) := by decide +kernel
theorem dX11_init_4 : decode cX11_init 4 = .ok (.aload_n 0, 1) := by decide +kernel
theorem dX11_init_5 : decode cX11_init 5 = .ok (.new 7, 3) := by decide +kernel
theorem dX11_init_8 : decode cX11_init 8 = .ok (.dup, 1) := by decide +kernel
theorem dX11_init_9 : decode cX11_init 9 = .ok (.invokespecial 9, 3) := by decide +kernel
theorem dX11_init_12 : decode cX11_init 12 = .ok (.putfield 10, 3) := by decide +kernel
theorem dX11_init_15 : decode cX11_init 15 = .ok (.aload_n 0, 1) := by decide +kernel
theorem dX11_init_16 : decode cX11_init 16 = .ok (.new 16, 3) := by decide +kernel
theorem dX11_init_19 : decode cX11_init 19 = .ok (.dup, 1) := by decide +kernel
theorem dX11_init_20 : decode cX11_init 20 = .ok (.invokespecial 18, 3) := by decide +kernel
theorem dX11_init_23 : decode cX11_init 23 = .ok (.putfield 19, 3) := by decide +kernel
theorem dX11_init_26 : decode cX11_init 26 = .ok (.aload_n 0, 1) := by decide +kernel
theorem dX11_init_27 : decode cX11_init 27 = .ok (.new 23, 3) := by decide +kernel
theorem dX11_init_30 : decode cX11_init 30 = .ok (.dup, 1) := by decide +kernel
theorem dX11_init_31 : decode cX11_init 31 = .ok (.invokespecial 25, 3) := by decide +kernel
theorem dX11_init_34 : decode cX11_init 34 = .ok (.putfield 26, 3) := by decide +kernel
theorem dX11_init_37 : decode cX11_init 37 = .ok (.aload_n 0, 1) := by decide +kernel
theorem dX11_init_38 : decode cX11_init 38 = .ok (.new 30, 3) := by decide +kernel
theorem dX11_init_41 : decode cX11_init 41 = .ok (.dup, 1) := by decide +kernel
theorem dX11_init_42 : decode cX11_init 42 = .ok (.invokespecial 32, 3) := by decide +kernel
theorem dX11_init_45 : decode cX11_init 45 = .ok (.putfield 33, 3) := by decide +kernel
theorem dX11_init_48 : decode cX11_init 48 = .ok (.aload_n 0, 1) := by decide +kernel
theorem dX11_init_49 : decode cX11_init 49 = .ok (.new 37, 3) := by decide +kernel
theorem dX11_init_52 : decode cX11_init 52 = .ok (.dup, 1) := by decide +kernel
theorem dX11_init_53 : decode cX11_init 53 = .ok (.iconst 0, 1) := by decide +kernel
theorem dX11_init_54 : decode cX11_init 54 = .ok (.invokespecial 39, 3) := by decide +kernel
theorem dX11_init_57 : decode cX11_init 57 = .ok (.putfield 42, 3) := by decide +kernel
theorem dX11_init_60 : decode cX11_init 60 = .ok (.aload_n 0, 1) := by decide +kernel
theorem dX11_init_61 : decode cX11_init 61 = .ok (.new 37, 3) := by decide +kernel
theorem dX11_init_64 : decode cX11_init 64 = .ok (.dup, 1) := by decide +kernel
theorem dX11_init_65 : decode cX11_init 65 = .ok (.iconst 1, 1) := by decide +kernel
theorem dX11_init_66 : decode cX11_init 66 = .ok (.invokespecial 39, 3) := by decide +kernel
theorem dX11_init_69 : decode cX11_init 69 = .ok (.putfield 46, 3) := by decide +kernel
theorem dX11_init_72 : decode cX11_init 72 = .ok (.aload_n 0, 1) := by decide +kernel
theorem dX11_init_73 : decode cX11_init 73 = .ok (.new 49, 3) := by decide +kernel
theorem dX11_init_76 : decode cX11_init 76 = .ok (.dup, 1) := by decide +kernel
theorem dX11_init_77 : decode cX11_init 77 = .ok (.invokespecial 51, 3) := by decide +kernel
theorem dX11_init_80 : decode cX11_init 80 = .ok (.putfield 52, 3) := by decide +kernel
theorem dX11_init_83 : decode cX11_init 83 = .ok (.aload_n 0, 1) := by decide +kernel
theorem dX11_init_84 : decode cX11_init 84 = .ok (.new 56, 3) := by decide +kernel
theorem dX11_init_87 : decode cX11_init 87 = .ok (.dup, 1) := by decide +kernel
theorem dX11_init_88 : decode cX11_init 88 = .ok (.invokespecial 58, 3) := by decide +kernel
theorem dX11_init_91 : decode cX11_init 91 = .ok (.putfield 59, 3) := by decide +kernel
theorem dX11_init_94 : decode cX11_init 94 = .ok (.aload_n 0, 1) := by decide +kernel
theorem dX11_init_95 : decode cX11_init 95 = .ok (.new 63, 3) := by decide +kernel
theorem dX11_init_98 : decode cX11_init 98 = .ok (.dup, 1) := by decide +kernel
theorem dX11_init_99 : decode cX11_init 99 = .ok (.invokespecial 65, 3) := by decide +kernel
theorem dX11_init_102 : decode cX11_init 102 = .ok (.putfield 66, 3) := by decide +kernel
theorem dX11_init_105 : decode cX11_init 105 = .ok (.aload_n 0, 1) := by decide +kernel
theorem dX11_init_106 : decode cX11_init 106 = .ok (.new 70, 3) := by decide +kernel
theorem dX11_init_109 : decode cX11_init 109 = .ok (.dup, 1) := by decide +kernel
theorem dX11_init_110 : decode cX11_init 110 = .ok (.bipush 12, 2) := by decide +kernel
theorem dX11_init_112 : decode cX11_init 112 = .ok (.invokespecial 72, 3) := by decide +kernel
theorem dX11_init_115 : decode cX11_init 115 = .ok (.putfield 75, 3) := by decide +kernel
theorem dX11_init_118 : decode cX11_init 118 = .ok (.aload_n 0, 1) := by decide +kernel
theorem dX11_init_119 : decode cX11_init 119 = .ok (.new 70, 3) := by decide +kernel
theorem dX11_init_122 : decode cX11_init 122 = .ok (.dup, 1) := by decide +kernel
theorem dX11_init_123 : decode cX11_init 123 = .ok (.bipush 8, 2) := by decide +kernel
theorem dX11_init_125 : decode cX11_init 125 = .ok (.invokespecial 72, 3) := by decide +kernel
theorem dX11_init_128 : decode cX11_init 128 = .ok (.putfield 79, 3) := by decide +kernel
theorem dX11_init_131 : decode cX11_init 131 = .ok (.aload_n 0, 1) := by decide +kernel
theorem dX11_init_132 : decode cX11_init 132 = .ok (.iconst 5, 1) := by decide +kernel
theorem dX11_init_133 : decode cX11_init 133 = .ok (.newarray .int, 2) := by decide +kernel
theorem dX11_init_135 : decode cX11_init 135 = .ok (.putfield 82, 3) := by decide +kernel
theorem dX11_init_138 : decode cX11_init 138 = .ok (.aload_n 0, 1) := by decide +kernel
theorem dX11_init_139 : decode cX11_init 139 = .ok (.iconst 0, 1) := by decide +kernel
theorem dX11_init_140 : decode cX11_init 140 = .ok (.putfield 86, 3) := by decide +kernel
theorem dX11_init_143 : decode cX11_init 143 = .ok (.return_, 1) := by decide +kernel
theorem dX12_init_0 : decode cX12_init 0 = .ok (.aload_n 0, 1) := by decide +kernel
theorem dX12_init_1 : decode cX12_init 1 = .ok (.invokespecial 1, 3) := by decide +kernel
theorem dX12_init_4 : decode cX12_init 4 = .ok (.aload_n 0, 1) := by decide +kernel
theorem dX12_init_5 : decode cX12_init 5 = .ok (.iconst 5, 1) := by decide +kernel
theorem dX12_init_6 : decode cX12_init 6 = .ok (.newarray .int, 2) := by decide +kernel
theorem dX12_init_8 : decode cX12_init 8 = .ok (.putfield 7, 3) := by decide +kernel
theorem dX12_init_11 : decode cX12_init 11 = .ok (.aload_n 0, 1) := by decide +kernel
theorem dX12_init_12 : decode cX12_init 12 = .ok (.bipush 12, 2) := by decide +kernel
theorem dX12_init_14 : decode cX12_init 14 = .ok (.newarray .int, 2) := by decide +kernel
theorem dX12_init_16 : decode cX12_init 16 = .ok (.putfield 13, 3) := by decide +kernel
theorem dX12_init_19 : decode cX12_init 19 = .ok (.aload_n 0, 1) := by decide +kernel
theorem dX12_init_20 : decode cX12_init 20 = .ok (.bipush 12, 2) := by decide +kernel
theorem dX12_init_22 : decode cX12_init 22 = .ok (.newarray .int, 2) := by decide +kernel
theorem dX12_init_24 : decode cX12_init 24 = .ok (.putfield 16, 3) := by decide +kernel
theorem dX12_init_27 : decode cX12_init 27 = .ok (.aload_n 0, 1) := by decide +kernel
theorem dX12_init_28 : decode cX12_init 28 = .ok (.bipush 12, 2) := by decide +kernel
theorem dX12_init_30 : decode cX12_init 30 = .ok (.newarray .int, 2) := by decide +kernel
theorem dX12_init_32 : decode cX12_init 32 = .ok (.putfield 19, 3) := by decide +kernel
theorem dX12_init_35 : decode cX12_init 35 = .ok (.aload_n 0, 1) := by decide +kernel
theorem dX12_init_36 : decode cX12_init 36 = .ok (.bipush 12, 2) := by decide +kernel
theorem dX12_init_38 : decode cX12_init 38 = .ok (.newarray .int, 2) := by decide +kernel
theorem dX12_init_40 : decode cX12_init 40 = .ok (.putfield 22, 3) := by decide +kernel
theorem dX12_init_43 : decode cX12_init 43 = .ok (.aload_n 0, 1) := by decide +kernel
theorem dX12_init_44 : decode cX12_init 44 = .ok (.bipush 12, 2) := by decide +kernel
theorem dX12_init_46 : decode cX12_init 46 = .ok (.newarray .int, 2) := by decide +kernel
theorem dX12_init_48 : decode cX12_init 48 = .ok (.putfield 25, 3) := by decide +kernel
theorem dX12_init_51 : decode cX12_init 51 = .ok (.aload_n 0, 1) := by decide +kernel
theorem dX12_init_52 : decode cX12_init 52 = .ok (.bipush (-9), 2) := by decide +kernel
theorem dX12_init_54 : decode cX12_init 54 = .ok (.putfield 28, 3) := by decide +kernel
theorem dX12_init_57 : decode cX12_init 57 = .ok (.aload_n 0, 1) := by decide +kernel
theorem dX12_init_58 : decode cX12_init 58 = .ok (.bipush 12, 2) := by decide +kernel
theorem dX12_init_60 : decode cX12_init 60 = .ok (.newarray .int, 2) := by decide +kernel
theorem dX12_init_62 : decode cX12_init 62 = .ok (.putfield 32, 3) := by decide +kernel
theorem dX12_init_65 : decode cX12_init 65 = .ok (.aload_n 0, 1) := by decide +kernel
theorem dX12_init_66 : decode cX12_init 66 = .ok (.bipush 12, 2) := by decide +kernel
theorem dX12_init_68 : decode cX12_init 68 = .ok (.newarray .int, 2) := by decide +kernel
theorem dX12_init_70 : decode cX12_init 70 = .ok (.putfield 35, 3) := by decide +kernel
theorem dX12_init_73 : decode cX12_init 73 = .ok (.aload_n 0, 1) := by decide +kernel
theorem dX12_init_74 : decode cX12_init 74 = .ok (.ldc 38, 2) := by decide +kernel
theorem dX12_init_76 : decode cX12_init 76 = .ok (.newarray .int, 2) := by decide +kernel
theorem dX12_init_78 : decode cX12_init 78 = .ok (.putfield 39, 3) := by decide +kernel
theorem dX12_init_81 : decode cX12_init 81 = .ok (.aload_n 0, 1) := by decide +kernel
theorem dX12_init_82 : decode cX12_init 82 = .ok (.sipush 4096, 3) := by decide +kernel
theorem dX12_init_85 : decode cX12_init 85 = .ok (.newarray .int, 2) := by decide +kernel
theorem dX12_init_87 : decode cX12_init 87 = .ok (.putfield 42, 3) := by decide +kernel
theorem dX12_init_90 : decode cX12_init 90 = .ok (.aload_n 0, 1) := by decide +kernel
theorem dX12_init_91 : decode cX12_init 91 = .ok (.bipush 100, 2) := by decide +kernel
theorem dX12_init_93 : decode cX12_init 93 = .ok (.newarray .int, 2) := by decide +kernel
theorem dX12_init_95 : decode cX12_init 95 = .ok (.putfield 45, 3) := by decide +kernel
theorem dX12_init_98 : decode cX12_init 98 = .ok (.aload_n 0, 1) := by decide +kernel
theorem dX12_init_99 : decode cX12_init 99 = .ok (.bipush 12, 2) := by decide +kernel
theorem dX12_init_101 : decode cX12_init 101 = .ok (.newarray .int, 2) := by decide +kernel
theorem dX12_init_103 : decode cX12_init 103 = .ok (.putfield 48, 3) := by decide +kernel
theorem dX12_init_106 : decode cX12_init 106 = .ok (.aload_n 0, 1) := by decide +kernel
theorem dX12_init_107 : decode cX12_init 107 = .ok (.bipush 100, 2) := by decide +kernel
theorem dX12_init_109 : decode cX12_init 109 = .ok (.newarray .int, 2) := by decide +kernel
theorem dX12_init_111 : decode cX12_init 111 = .ok (.putfield 51, 3) := by decide +kernel
theorem dX12_init_114 : decode cX12_init 114 = .ok (.aload_n 0, 1) := by decide +kernel
theorem dX12_init_115 : decode cX12_init 115 = .ok (.bipush 12, 2) := by decide +kernel
theorem dX12_init_117 : decode cX12_init 117 = .ok (.newarray .int, 2) := by decide +kernel
theorem dX12_init_119 : decode cX12_init 119 = .ok (.putfield 54, 3) := by decide +kernel
theorem dX12_init_122 : decode cX12_init 122 = .ok (.aload_n 0, 1) := by decide +kernel
theorem dX12_init_123 : decode cX12_init 123 = .ok (.ldc 38, 2) := by decide +kernel
theorem dX12_init_125 : decode cX12_init 125 = .ok (.newarray .boolean, 2) := by decide +kernel
theorem dX12_init_127 : decode cX12_init 127 = .ok (.putfield 57, 3) := by decide +kernel
theorem dX12_init_130 : decode cX12_init 130 = .ok (.aload_n 0, 1) := by decide +kernel
theorem dX12_init_131 : decode cX12_init 131 = .ok (.ldc 38, 2) := by decide +kernel
theorem dX12_init_133 : decode cX12_init 133 = .ok (.newarray .int, 2) := by decide +kernel
theorem dX12_init_135 : decode cX12_init 135 = .ok (.putfield 61, 3) := by decide +kernel
theorem dX12_init_138 : decode cX12_init 138 = .ok (.aload_n 0, 1) := by decide +kernel
theorem dX12_init_139 : decode cX12_init 139 = .ok (.bipush 12, 2) := by decide +kernel
theorem dX12_init_141 : decode cX12_init 141 = .ok (.newarray .int, 2) := by decide +kernel
theorem dX12_init_143 : decode cX12_init 143 = .ok (.putfield 64, 3) := by decide +kernel
theorem dX12_init_146 : decode cX12_init 146 = .ok (.aload_n 0, 1) := by decide +kernel
theorem dX12_init_147 : decode cX12_init 147 = .ok (.bipush 12, 2) := by decide +kernel
theorem dX12_init_149 : decode cX12_init 149 = .ok (.newarray .int, 2) := by decide +kernel
theorem dX12_init_151 : decode cX12_init 151 = .ok (.putfield 67, 3) := by decide +kernel
theorem dX12_init_154 : decode cX12_init 154 = .ok (.iconst 0, 1) := by decide +kernel
theorem dX12_init_155 : decode cX12_init 155 = .ok (.istore_n 1, 1) := by decide +kernel
theorem dX12_init_156 : decode cX12_init 156 = .ok (.iload_n 1, 1) := by decide +kernel
theorem dX12_init_157 : decode cX12_init 157 = .ok (.bipush 12, 2) := by decide +kernel
theorem dX12_init_159 : decode cX12_init 159 = .ok (.if_icmp .ge 17, 3) := by decide +kernel
theorem dX12_init_162 : decode cX12_init 162 = .ok (.aload_n 0, 1) := by decide +kernel
theorem dX12_init_163 : decode cX12_init 163 = .ok (.getfield 16, 3) := by decide +kernel
theorem dX12_init_166 : decode cX12_init 166 = .ok (.iload_n 1, 1) := by decide +kernel
theorem dX12_init_167 : decode cX12_init 167 = .ok (.bipush (-9), 2) := by decide +kernel
theorem dX12_init_169 : decode cX12_init 169 = .ok (.iastore, 1) := by decide +kernel
theorem dX12_init_170 : decode cX12_init 170 = .ok (.iinc 1 1, 3) := by decide +kernel
theorem dX12_init_173 : decode cX12_init 173 = .ok (.goto (-17), 3) := by decide +kernel
theorem dX12_init_176 : decode cX12_init 176 = .ok (.return_, 1) := by decide +kernel
theorem dX12_in_0 : decode cX12_in 0 = .ok (.iload_n 0, 1) := by decide +kernel
theorem dX12_in_1 : decode cX12_in 1 = .ok (.iload_n 1, 1) := by decide +kernel
theorem dX12_in_2 : decode cX12_in 2 = .ok (.if_icmp .lt 12, 3) := by decide +kernel
theorem dX12_in_5 : decode cX12_in 5 = .ok (.iload_n 0, 1) := by decide +kernel
theorem dX12_in_6 : decode cX12_in 6 = .ok (.iload_n 2, 1) := by decide +kernel
theorem dX12_in_7 : decode cX12_in 7 = .ok (.if_icmp .gt 7, 3) := by decide +kernel
theorem dX12_in_10 : decode cX12_in 10 = .ok (.iconst 1, 1) := by decide +kernel
theorem dX12_in_11 : decode cX12_in 11 = .ok (.goto 4, 3) := by decide +kernel
theorem dX12_in_14 : decode cX12_in 14 = .ok (.iconst 0, 1) := by decide +kernel
theorem dX12_in_15 : decode cX12_in 15 = .ok (.ireturn, 1) := by decide +kernel
theorem dX12_meets_0 : decode cX12_meets 0 = .ok (.aload_n 0, 1) := by decide +kernel
theorem dX12_meets_1 : decode cX12_meets 1 = .ok (.iload_n 1, 1) := by decide +kernel
theorem dX12_meets_2 : decode cX12_meets 2 = .ok (.putfield 70, 3) := by decide +kernel
theorem dX12_meets_5 : decode cX12_meets 5 = .ok (.aload_n 0, 1) := by decide +kernel
theorem dX12_meets_6 : decode cX12_meets 6 = .ok (.getfield 7, 3) := by decide +kernel
theorem dX12_meets_9 : decode cX12_meets 9 = .ok (.iload_n 1, 1) := by decide +kernel
theorem dX12_meets_10 : decode cX12_meets 10 = .ok (.dup2, 1) := by decide +kernel
theorem dX12_meets_11 : decode cX12_meets 11 = .ok (.iaload, 1) := by decide +kernel
theorem dX12_meets_12 : decode cX12_meets 12 = .ok (.iconst 1, 1) := by decide +kernel
theorem dX12_meets_13 : decode cX12_meets 13 = .ok (.iadd, 1) := by decide +kernel
theorem dX12_meets_14 : decode cX12_meets 14 = .ok (.iastore, 1) := by decide +kernel
theorem dX12_meets_15 : decode cX12_meets 15 = .ok (.bipush (-3), 2) := by decide +kernel
theorem dX12_meets_17 : decode cX12_meets 17 = .ok (.ireturn, 1) := by decide +kernel
theorem dX12_bits_0 : decode cX12_bits 0 = .ok (.iconst 0, 1) := by decide +kernel
theorem dX12_bits_1 : decode cX12_bits 1 = .ok (.istore_n 1, 1) := by decide +kernel
theorem dX12_bits_2 : decode cX12_bits 2 = .ok (.iconst 0, 1) := by decide +kernel
theorem dX12_bits_3 : decode cX12_bits 3 = .ok (.istore_n 2, 1) := by decide +kernel
theorem dX12_bits_4 : decode cX12_bits 4 = .ok (.iload_n 2, 1) := by decide +kernel
theorem dX12_bits_5 : decode cX12_bits 5 = .ok (.bipush 13, 2) := by decide +kernel
theorem dX12_bits_7 : decode cX12_bits 7 = .ok (.if_icmp .ge 17, 3) := by decide +kernel
theorem dX12_bits_10 : decode cX12_bits 10 = .ok (.iload_n 1, 1) := by decide +kernel
theorem dX12_bits_11 : decode cX12_bits 11 = .ok (.iload_n 0, 1) := by decide +kernel
theorem dX12_bits_12 : decode cX12_bits 12 = .ok (.iload_n 2, 1) := by decide +kernel
theorem dX12_bits_13 : decode cX12_bits 13 = .ok (.ishr, 1) := by decide +kernel
theorem dX12_bits_14 : decode cX12_bits 14 = .ok (.iconst 1, 1) := by decide +kernel
theorem dX12_bits_15 : decode cX12_bits 15 = .ok (.iand, 1) := by decide +kernel
theorem dX12_bits_16 : decode cX12_bits 16 = .ok (.iadd, 1) := by decide +kernel
theorem dX12_bits_17 : decode cX12_bits 17 = .ok (.istore_n 1, 1) := by decide +kernel
theorem dX12_bits_18 : decode cX12_bits 18 = .ok (.iinc 2 1, 3) := by decide +kernel
theorem dX12_bits_21 : decode cX12_bits 21 = .ok (.goto (-17), 3) := by decide +kernel
theorem dX12_bits_24 : decode cX12_bits 24 = .ok (.iload_n 1, 1) := by decide +kernel
theorem dX12_bits_25 : decode cX12_bits 25 = .ok (.ireturn, 1) := by decide +kernel
theorem dX12_has_0 : decode cX12_has 0 = .ok (.iload_n 0, 1) := by decide +kernel
theorem dX12_has_1 : decode cX12_has 1 = .ok (.iload_n 1, 1) := by decide +kernel
theorem dX12_has_2 : decode cX12_has 2 = .ok (.ishr, 1) := by decide +kernel
theorem dX12_has_3 : decode cX12_has 3 = .ok (.iconst 1, 1) := by decide +kernel
theorem dX12_has_4 : decode cX12_has 4 = .ok (.iand, 1) := by decide +kernel
theorem dX12_has_5 : decode cX12_has 5 = .ok (.iconst 1, 1) := by decide +kernel
theorem dX12_has_6 : decode cX12_has 6 = .ok (.if_icmp .ne 7, 3) := by decide +kernel
theorem dX12_has_9 : decode cX12_has 9 = .ok (.iconst 1, 1) := by decide +kernel
theorem dX12_has_10 : decode cX12_has 10 = .ok (.goto 4, 3) := by decide +kernel
theorem dX12_has_13 : decode cX12_has 13 = .ok (.iconst 0, 1) := by decide +kernel
theorem dX12_has_14 : decode cX12_has 14 = .ok (.ireturn, 1) := by decide +kernel
theorem dX12_all_0 : decode cX12_all 0 = .ok (.iconst 1, 1) := by decide +kernel
theorem dX12_all_1 : decode cX12_all 1 = .ok (.aload_n 0, 1) := by decide +kernel
theorem dX12_all_2 : decode cX12_all 2 = .ok (.getfield 73, 3) := by decide +kernel
theorem dX12_all_5 : decode cX12_all 5 = .ok (.ishl, 1) := by decide +kernel
theorem dX12_all_6 : decode cX12_all 6 = .ok (.iconst 1, 1) := by decide +kernel
theorem dX12_all_7 : decode cX12_all 7 = .ok (.isub, 1) := by decide +kernel
theorem dX12_all_8 : decode cX12_all 8 = .ok (.ireturn, 1) := by decide +kernel
set_option maxRecDepth 20000 in
theorem ggX12_isNode_X12_in : GoodIn wsX12_isNode wsX12_in := goodIn_sub (gi_c 5 rfl gi_n) (by decide +kernel)
set_option maxRecDepth 20000 in
theorem gX12_isNode_X12_in : GoodIn wsX12_isNode (va_wsS RX12 76 yX12_in wsX12_in) := goodIn_app (goodIn_of _ (by decide +kernel)) ggX12_isNode_X12_in
theorem dX12_isNode_0 : decode cX12_isNode 0 = .ok (.iload_n 1, 1) := by decide +kernel
theorem dX12_isNode_1 : decode cX12_isNode 1 = .ok (.iconst 0, 1) := by decide +kernel
theorem dX12_isNode_2 : decode cX12_isNode 2 = .ok (.aload_n 0, 1) := by decide +kernel
theorem dX12_isNode_3 : decode cX12_isNode 3 = .ok (.getfield 73, 3) := by decide +kernel
theorem dX12_isNode_6 : decode cX12_isNode 6 = .ok (.iconst 1, 1) := by decide +kernel
theorem dX12_isNode_7 : decode cX12_isNode 7 = .ok (.isub, 1) := by decide +kernel
theorem dX12_isNode_8 : decode cX12_isNode 8 = .ok (.invokestatic 76, 3) := by decide +kernel
theorem dX12_isNode_11 : decode cX12_isNode 11 = .ok (.ireturn, 1) := by decide +kernel
theorem dX12_changed_0 : decode cX12_changed 0 = .ok (.aload_n 0, 1) := by decide +kernel
theorem dX12_changed_1 : decode cX12_changed 1 = .ok (.bipush (-9), 2) := by decide +kernel
theorem dX12_changed_3 : decode cX12_changed 3 = .ok (.putfield 28, 3) := by decide +kernel
theorem dX12_changed_6 : decode cX12_changed 6 = .ok (.return_, 1) := by decide +kernel
set_option maxRecDepth 20000 in
theorem ggX12_nodes_X12_in : GoodIn wsX12_nodes wsX12_in := goodIn_sub (gi_c 7 rfl gi_n) (by decide +kernel)
set_option maxRecDepth 20000 in
theorem gX12_nodes_X12_in : GoodIn wsX12_nodes (va_wsS RX12 76 yX12_in wsX12_in) := goodIn_app (goodIn_of _ (by decide +kernel)) ggX12_nodes_X12_in
set_option maxRecDepth 20000 in
theorem ggX12_nodes_X12_changed : GoodIn wsX12_nodes wsX12_changed := goodIn_sub (gi_c 11 rfl (gi_a (gi_c 12 rfl gi_n) pz_X12_nodes_X120)) (by decide +kernel)
set_option maxRecDepth 20000 in
theorem gX12_nodes_X12_changed : GoodIn wsX12_nodes (wsV RX12 83 RX12 yX12_changed wsX12_changed) := goodIn_app (goodIn_of _ (by decide +kernel)) ggX12_nodes_X12_changed
theorem dX12_nodes_0 : decode cX12_nodes 0 = .ok (.iload_n 1, 1) := by decide +kernel
theorem dX12_nodes_1 : decode cX12_nodes 1 = .ok (.iconst 0, 1) := by decide +kernel
theorem dX12_nodes_2 : decode cX12_nodes 2 = .ok (.bipush 12, 2) := by decide +kernel
theorem dX12_nodes_4 : decode cX12_nodes 4 = .ok (.invokestatic 76, 3) := by decide +kernel
theorem dX12_nodes_7 : decode cX12_nodes 7 = .ok (.ifCond .ne 5, 3) := by decide +kernel
theorem dX12_nodes_10 : decode cX12_nodes 10 = .ok (.iconst (-1), 1) := by decide +kernel
theorem dX12_nodes_11 : decode cX12_nodes 11 = .ok (.ireturn, 1) := by decide +kernel
theorem dX12_nodes_12 : decode cX12_nodes 12 = .ok (.aload_n 0, 1) := by decide +kernel
theorem dX12_nodes_13 : decode cX12_nodes 13 = .ok (.iload_n 1, 1) := by decide +kernel
theorem dX12_nodes_14 : decode cX12_nodes 14 = .ok (.putfield 73, 3) := by decide +kernel
theorem dX12_nodes_17 : decode cX12_nodes 17 = .ok (.iconst 0, 1) := by decide +kernel
theorem dX12_nodes_18 : decode cX12_nodes 18 = .ok (.istore_n 2, 1) := by decide +kernel
theorem dX12_nodes_19 : decode cX12_nodes 19 = .ok (.iload_n 2, 1) := by decide +kernel
theorem dX12_nodes_20 : decode cX12_nodes 20 = .ok (.bipush 12, 2) := by decide +kernel
theorem dX12_nodes_22 : decode cX12_nodes 22 = .ok (.if_icmp .ge 16, 3) := by decide +kernel
theorem dX12_nodes_25 : decode cX12_nodes 25 = .ok (.aload_n 0, 1) := by decide +kernel
theorem dX12_nodes_26 : decode cX12_nodes 26 = .ok (.getfield 13, 3) := by decide +kernel
theorem dX12_nodes_29 : decode cX12_nodes 29 = .ok (.iload_n 2, 1) := by decide +kernel
theorem dX12_nodes_30 : decode cX12_nodes 30 = .ok (.iconst 0, 1) := by decide +kernel
theorem dX12_nodes_31 : decode cX12_nodes 31 = .ok (.iastore, 1) := by decide +kernel
theorem dX12_nodes_32 : decode cX12_nodes 32 = .ok (.iinc 2 1, 3) := by decide +kernel
theorem dX12_nodes_35 : decode cX12_nodes 35 = .ok (.goto (-16), 3) := by decide +kernel
theorem dX12_nodes_38 : decode cX12_nodes 38 = .ok (.aload_n 0, 1) := by decide +kernel
theorem dX12_nodes_39 : decode cX12_nodes 39 = .ok (.iconst 0, 1) := by decide +kernel
theorem dX12_nodes_40 : decode cX12_nodes 40 = .ok (.putfield 80, 3) := by decide +kernel
theorem dX12_nodes_43 : decode cX12_nodes 43 = .ok (.aload_n 0, 1) := by decide +kernel
theorem dX12_nodes_44 : decode cX12_nodes 44 = .ok (.invokevirtual 83, 3) := by decide +kernel
theorem dX12_nodes_47 : decode cX12_nodes 47 = .ok (.aload_n 0, 1) := by decide +kernel
theorem dX12_nodes_48 : decode cX12_nodes 48 = .ok (.getfield 73, 3) := by decide +kernel
theorem dX12_nodes_51 : decode cX12_nodes 51 = .ok (.ireturn, 1) := by decide +kernel
theorem dX12_tie_0 : decode cX12_tie 0 = .ok (.aload_n 0, 1) := by decide +kernel
theorem dX12_tie_1 : decode cX12_tie 1 = .ok (.getfield 13, 3) := by decide +kernel
theorem dX12_tie_4 : decode cX12_tie 4 = .ok (.iload_n 1, 1) := by decide +kernel
theorem dX12_tie_5 : decode cX12_tie 5 = .ok (.dup2, 1) := by decide +kernel
theorem dX12_tie_6 : decode cX12_tie 6 = .ok (.iaload, 1) := by decide +kernel
theorem dX12_tie_7 : decode cX12_tie 7 = .ok (.iconst 1, 1) := by decide +kernel
theorem dX12_tie_8 : decode cX12_tie 8 = .ok (.iload_n 2, 1) := by decide +kernel
theorem dX12_tie_9 : decode cX12_tie 9 = .ok (.ishl, 1) := by decide +kernel
theorem dX12_tie_10 : decode cX12_tie 10 = .ok (.ior, 1) := by decide +kernel
theorem dX12_tie_11 : decode cX12_tie 11 = .ok (.iastore, 1) := by decide +kernel
theorem dX12_tie_12 : decode cX12_tie 12 = .ok (.aload_n 0, 1) := by decide +kernel
theorem dX12_tie_13 : decode cX12_tie 13 = .ok (.getfield 13, 3) := by decide +kernel
theorem dX12_tie_16 : decode cX12_tie 16 = .ok (.iload_n 2, 1) := by decide +kernel
theorem dX12_tie_17 : decode cX12_tie 17 = .ok (.dup2, 1) := by decide +kernel
theorem dX12_tie_18 : decode cX12_tie 18 = .ok (.iaload, 1) := by decide +kernel
theorem dX12_tie_19 : decode cX12_tie 19 = .ok (.iconst 1, 1) := by decide +kernel
theorem dX12_tie_20 : decode cX12_tie 20 = .ok (.iload_n 1, 1) := by decide +kernel
theorem dX12_tie_21 : decode cX12_tie 21 = .ok (.ishl, 1) := by decide +kernel
theorem dX12_tie_22 : decode cX12_tie 22 = .ok (.ior, 1) := by decide +kernel
theorem dX12_tie_23 : decode cX12_tie 23 = .ok (.iastore, 1) := by decide +kernel
theorem dX12_tie_24 : decode cX12_tie 24 = .ok (.return_, 1) := by decide +kernel
set_option maxRecDepth 20000 in
theorem ggX12_join_X12_isNode : GoodIn wsX12_join wsX12_isNode := goodIn_sub (gi_c 6 rfl (gi_a (gi_c 7 rfl (gi_c 8 rfl (gi_c 9 rfl (gi_c 5 rfl (gi_c 10 rfl gi_n))))) pz_X12_join_X120)) (by decide +kernel)
set_option maxRecDepth 20000 in
theorem gX12_join_X12_isNode : GoodIn wsX12_join (wsV RX12 86 RX12 yX12_isNode wsX12_isNode) := goodIn_app (goodIn_of _ (by decide +kernel)) ggX12_join_X12_isNode
set_option maxRecDepth 20000 in
theorem ggX12_join_X12_has : GoodIn wsX12_join wsX12_has := goodIn_sub (gi_c 13 rfl gi_n) (by decide +kernel)
set_option maxRecDepth 20000 in
theorem gX12_join_X12_has : GoodIn wsX12_join (va_wsS RX12 90 yX12_has wsX12_has) := goodIn_app (goodIn_of _ (by decide +kernel)) ggX12_join_X12_has
set_option maxRecDepth 20000 in
theorem ggX12_join_X12_tie : GoodIn wsX12_join wsX12_tie := goodIn_sub (gi_c 17 rfl (gi_a (gi_c 1 rfl gi_n) pz_X12_join_X120)) (by decide +kernel)
set_option maxRecDepth 20000 in
theorem gX12_join_X12_tie : GoodIn wsX12_join (wsV RX12 94 RX12 yX12_tie wsX12_tie) := goodIn_app (goodIn_of _ (by decide +kernel)) ggX12_join_X12_tie
set_option maxRecDepth 20000 in
theorem ggX12_join_X12_changed : GoodIn wsX12_join wsX12_changed := goodIn_sub (gi_c 21 rfl (gi_a (gi_c 22 rfl gi_n) pz_X12_join_X120)) (by decide +kernel)
set_option maxRecDepth 20000 in
theorem gX12_join_X12_changed : GoodIn wsX12_join (wsV RX12 83 RX12 yX12_changed wsX12_changed) := goodIn_app (goodIn_of _ (by decide +kernel)) ggX12_join_X12_changed
theorem dX12_join_0 : decode cX12_join 0 = .ok (.aload_n 0, 1) := by decide +kernel
theorem dX12_join_1 : decode cX12_join 1 = .ok (.iload_n 1, 1) := by decide +kernel
theorem dX12_join_2 : decode cX12_join 2 = .ok (.invokevirtual 86, 3) := by decide +kernel
theorem dX12_join_5 : decode cX12_join 5 = .ok (.ifCond .eq 16, 3) := by decide +kernel
theorem dX12_join_8 : decode cX12_join 8 = .ok (.aload_n 0, 1) := by decide +kernel
theorem dX12_join_9 : decode cX12_join 9 = .ok (.iload_n 2, 1) := by decide +kernel
theorem dX12_join_10 : decode cX12_join 10 = .ok (.invokevirtual 86, 3) := by decide +kernel
theorem dX12_join_13 : decode cX12_join 13 = .ok (.ifCond .eq 8, 3) := by decide +kernel
theorem dX12_join_16 : decode cX12_join 16 = .ok (.iload_n 1, 1) := by decide +kernel
theorem dX12_join_17 : decode cX12_join 17 = .ok (.iload_n 2, 1) := by decide +kernel
theorem dX12_join_18 : decode cX12_join 18 = .ok (.if_icmp .ne 5, 3) := by decide +kernel
theorem dX12_join_21 : decode cX12_join 21 = .ok (.iconst (-1), 1) := by decide +kernel
theorem dX12_join_22 : decode cX12_join 22 = .ok (.ireturn, 1) := by decide +kernel
theorem dX12_join_23 : decode cX12_join 23 = .ok (.aload_n 0, 1) := by decide +kernel
theorem dX12_join_24 : decode cX12_join 24 = .ok (.getfield 13, 3) := by decide +kernel
theorem dX12_join_27 : decode cX12_join 27 = .ok (.iload_n 1, 1) := by decide +kernel
theorem dX12_join_28 : decode cX12_join 28 = .ok (.iaload, 1) := by decide +kernel
theorem dX12_join_29 : decode cX12_join 29 = .ok (.iload_n 2, 1) := by decide +kernel
theorem dX12_join_30 : decode cX12_join 30 = .ok (.invokestatic 90, 3) := by decide +kernel
theorem dX12_join_33 : decode cX12_join 33 = .ok (.ifCond .eq 7, 3) := by decide +kernel
theorem dX12_join_36 : decode cX12_join 36 = .ok (.iconst 1, 1) := by decide +kernel
theorem dX12_join_37 : decode cX12_join 37 = .ok (.goto 4, 3) := by decide +kernel
theorem dX12_join_40 : decode cX12_join 40 = .ok (.iconst 0, 1) := by decide +kernel
theorem dX12_join_41 : decode cX12_join 41 = .ok (.istore 4, 2) := by decide +kernel
theorem dX12_join_43 : decode cX12_join 43 = .ok (.aload_n 0, 1) := by decide +kernel
theorem dX12_join_44 : decode cX12_join 44 = .ok (.iload_n 1, 1) := by decide +kernel
theorem dX12_join_45 : decode cX12_join 45 = .ok (.iload_n 2, 1) := by decide +kernel
theorem dX12_join_46 : decode cX12_join 46 = .ok (.invokevirtual 94, 3) := by decide +kernel
theorem dX12_join_49 : decode cX12_join 49 = .ok (.iload_n 3, 1) := by decide +kernel
theorem dX12_join_50 : decode cX12_join 50 = .ok (.ifCond .ne 31, 3) := by decide +kernel
theorem dX12_join_53 : decode cX12_join 53 = .ok (.aload_n 0, 1) := by decide +kernel
theorem dX12_join_54 : decode cX12_join 54 = .ok (.getfield 13, 3) := by decide +kernel
theorem dX12_join_57 : decode cX12_join 57 = .ok (.iload_n 1, 1) := by decide +kernel
theorem dX12_join_58 : decode cX12_join 58 = .ok (.dup2, 1) := by decide +kernel
theorem dX12_join_59 : decode cX12_join 59 = .ok (.iaload, 1) := by decide +kernel
theorem dX12_join_60 : decode cX12_join 60 = .ok (.iconst 1, 1) := by decide +kernel
theorem dX12_join_61 : decode cX12_join 61 = .ok (.iload_n 2, 1) := by decide +kernel
theorem dX12_join_62 : decode cX12_join 62 = .ok (.ishl, 1) := by decide +kernel
theorem dX12_join_63 : decode cX12_join 63 = .ok (.iconst (-1), 1) := by decide +kernel
theorem dX12_join_64 : decode cX12_join 64 = .ok (.ixor, 1) := by decide +kernel
theorem dX12_join_65 : decode cX12_join 65 = .ok (.iand, 1) := by decide +kernel
theorem dX12_join_66 : decode cX12_join 66 = .ok (.iastore, 1) := by decide +kernel
theorem dX12_join_67 : decode cX12_join 67 = .ok (.aload_n 0, 1) := by decide +kernel
theorem dX12_join_68 : decode cX12_join 68 = .ok (.getfield 13, 3) := by decide +kernel
theorem dX12_join_71 : decode cX12_join 71 = .ok (.iload_n 2, 1) := by decide +kernel
theorem dX12_join_72 : decode cX12_join 72 = .ok (.dup2, 1) := by decide +kernel
theorem dX12_join_73 : decode cX12_join 73 = .ok (.iaload, 1) := by decide +kernel
theorem dX12_join_74 : decode cX12_join 74 = .ok (.iconst 1, 1) := by decide +kernel
theorem dX12_join_75 : decode cX12_join 75 = .ok (.iload_n 1, 1) := by decide +kernel
theorem dX12_join_76 : decode cX12_join 76 = .ok (.ishl, 1) := by decide +kernel
theorem dX12_join_77 : decode cX12_join 77 = .ok (.iconst (-1), 1) := by decide +kernel
theorem dX12_join_78 : decode cX12_join 78 = .ok (.ixor, 1) := by decide +kernel
theorem dX12_join_79 : decode cX12_join 79 = .ok (.iand, 1) := by decide +kernel
theorem dX12_join_80 : decode cX12_join 80 = .ok (.iastore, 1) := by decide +kernel
theorem dX12_join_81 : decode cX12_join 81 = .ok (.aload_n 0, 1) := by decide +kernel
theorem dX12_join_82 : decode cX12_join 82 = .ok (.invokevirtual 83, 3) := by decide +kernel
theorem dX12_join_85 : decode cX12_join 85 = .ok (.iload 4, 2) := by decide +kernel
theorem dX12_join_87 : decode cX12_join 87 = .ok (.ireturn, 1) := by decide +kernel
set_option maxRecDepth 20000 in
theorem ggX12_joined_X12_isNode : GoodIn wsX12_joined wsX12_isNode := goodIn_sub (gi_c 6 rfl (gi_a (gi_c 7 rfl (gi_c 8 rfl (gi_c 9 rfl (gi_c 5 rfl (gi_c 10 rfl gi_n))))) pz_X12_joined_X120)) (by decide +kernel)
set_option maxRecDepth 20000 in
theorem gX12_joined_X12_isNode : GoodIn wsX12_joined (wsV RX12 86 RX12 yX12_isNode wsX12_isNode) := goodIn_app (goodIn_of _ (by decide +kernel)) ggX12_joined_X12_isNode
theorem dX12_joined_0 : decode cX12_joined 0 = .ok (.aload_n 0, 1) := by decide +kernel
theorem dX12_joined_1 : decode cX12_joined 1 = .ok (.iload_n 1, 1) := by decide +kernel
theorem dX12_joined_2 : decode cX12_joined 2 = .ok (.invokevirtual 86, 3) := by decide +kernel
theorem dX12_joined_5 : decode cX12_joined 5 = .ok (.ifCond .eq 12, 3) := by decide +kernel
theorem dX12_joined_8 : decode cX12_joined 8 = .ok (.aload_n 0, 1) := by decide +kernel
theorem dX12_joined_9 : decode cX12_joined 9 = .ok (.getfield 13, 3) := by decide +kernel
theorem dX12_joined_12 : decode cX12_joined 12 = .ok (.iload_n 1, 1) := by decide +kernel
theorem dX12_joined_13 : decode cX12_joined 13 = .ok (.iaload, 1) := by decide +kernel
theorem dX12_joined_14 : decode cX12_joined 14 = .ok (.goto 4, 3) := by decide +kernel
theorem dX12_joined_17 : decode cX12_joined 17 = .ok (.iconst (-1), 1) := by decide +kernel
theorem dX12_joined_18 : decode cX12_joined 18 = .ok (.ireturn, 1) := by decide +kernel
set_option maxRecDepth 20000 in
theorem ggX12_isClique_X12_has : GoodIn wsX12_isClique wsX12_has := goodIn_sub (gi_c 6 rfl gi_n) (by decide +kernel)
set_option maxRecDepth 20000 in
theorem gX12_isClique_X12_has : GoodIn wsX12_isClique (va_wsS RX12 90 yX12_has wsX12_has) := goodIn_app (goodIn_of _ (by decide +kernel)) ggX12_isClique_X12_has
theorem dX12_isClique_0 : decode cX12_isClique 0 = .ok (.iconst 1, 1) := by decide +kernel
theorem dX12_isClique_1 : decode cX12_isClique 1 = .ok (.istore_n 2, 1) := by decide +kernel
theorem dX12_isClique_2 : decode cX12_isClique 2 = .ok (.iconst 0, 1) := by decide +kernel
theorem dX12_isClique_3 : decode cX12_isClique 3 = .ok (.istore_n 3, 1) := by decide +kernel
theorem dX12_isClique_4 : decode cX12_isClique 4 = .ok (.iload_n 3, 1) := by decide +kernel
theorem dX12_isClique_5 : decode cX12_isClique 5 = .ok (.aload_n 0, 1) := by decide +kernel
theorem dX12_isClique_6 : decode cX12_isClique 6 = .ok (.getfield 73, 3) := by decide +kernel
theorem dX12_isClique_9 : decode cX12_isClique 9 = .ok (.if_icmp .ge 43, 3) := by decide +kernel
theorem dX12_isClique_12 : decode cX12_isClique 12 = .ok (.iload_n 2, 1) := by decide +kernel
theorem dX12_isClique_13 : decode cX12_isClique 13 = .ok (.ifCond .eq 31, 3) := by decide +kernel
theorem dX12_isClique_16 : decode cX12_isClique 16 = .ok (.iload_n 1, 1) := by decide +kernel
theorem dX12_isClique_17 : decode cX12_isClique 17 = .ok (.iload_n 3, 1) := by decide +kernel
theorem dX12_isClique_18 : decode cX12_isClique 18 = .ok (.invokestatic 90, 3) := by decide +kernel
theorem dX12_isClique_21 : decode cX12_isClique 21 = .ok (.ifCond .eq 19, 3) := by decide +kernel
theorem dX12_isClique_24 : decode cX12_isClique 24 = .ok (.iload_n 1, 1) := by decide +kernel
theorem dX12_isClique_25 : decode cX12_isClique 25 = .ok (.aload_n 0, 1) := by decide +kernel
theorem dX12_isClique_26 : decode cX12_isClique 26 = .ok (.getfield 13, 3) := by decide +kernel
theorem dX12_isClique_29 : decode cX12_isClique 29 = .ok (.iload_n 3, 1) := by decide +kernel
theorem dX12_isClique_30 : decode cX12_isClique 30 = .ok (.iaload, 1) := by decide +kernel
theorem dX12_isClique_31 : decode cX12_isClique 31 = .ok (.iconst (-1), 1) := by decide +kernel
theorem dX12_isClique_32 : decode cX12_isClique 32 = .ok (.ixor, 1) := by decide +kernel
theorem dX12_isClique_33 : decode cX12_isClique 33 = .ok (.iand, 1) := by decide +kernel
theorem dX12_isClique_34 : decode cX12_isClique 34 = .ok (.iconst 1, 1) := by decide +kernel
theorem dX12_isClique_35 : decode cX12_isClique 35 = .ok (.iload_n 3, 1) := by decide +kernel
theorem dX12_isClique_36 : decode cX12_isClique 36 = .ok (.ishl, 1) := by decide +kernel
theorem dX12_isClique_37 : decode cX12_isClique 37 = .ok (.if_icmp .ne 7, 3) := by decide +kernel
theorem dX12_isClique_40 : decode cX12_isClique 40 = .ok (.iconst 1, 1) := by decide +kernel
theorem dX12_isClique_41 : decode cX12_isClique 41 = .ok (.goto 4, 3) := by decide +kernel
theorem dX12_isClique_44 : decode cX12_isClique 44 = .ok (.iconst 0, 1) := by decide +kernel
theorem dX12_isClique_45 : decode cX12_isClique 45 = .ok (.istore_n 2, 1) := by decide +kernel
theorem dX12_isClique_46 : decode cX12_isClique 46 = .ok (.iinc 3 1, 3) := by decide +kernel
theorem dX12_isClique_49 : decode cX12_isClique 49 = .ok (.goto (-45), 3) := by decide +kernel
theorem dX12_isClique_52 : decode cX12_isClique 52 = .ok (.iload_n 2, 1) := by decide +kernel
theorem dX12_isClique_53 : decode cX12_isClique 53 = .ok (.ireturn, 1) := by decide +kernel
set_option maxRecDepth 20000 in
theorem ggX12_isApart_X12_has : GoodIn wsX12_isApart wsX12_has := goodIn_sub (gi_c 6 rfl gi_n) (by decide +kernel)
set_option maxRecDepth 20000 in
theorem gX12_isApart_X12_has : GoodIn wsX12_isApart (va_wsS RX12 90 yX12_has wsX12_has) := goodIn_app (goodIn_of _ (by decide +kernel)) ggX12_isApart_X12_has
theorem dX12_isApart_0 : decode cX12_isApart 0 = .ok (.iconst 1, 1) := by decide +kernel
theorem dX12_isApart_1 : decode cX12_isApart 1 = .ok (.istore_n 2, 1) := by decide +kernel
theorem dX12_isApart_2 : decode cX12_isApart 2 = .ok (.iconst 0, 1) := by decide +kernel
theorem dX12_isApart_3 : decode cX12_isApart 3 = .ok (.istore_n 3, 1) := by decide +kernel
theorem dX12_isApart_4 : decode cX12_isApart 4 = .ok (.iload_n 3, 1) := by decide +kernel
theorem dX12_isApart_5 : decode cX12_isApart 5 = .ok (.aload_n 0, 1) := by decide +kernel
theorem dX12_isApart_6 : decode cX12_isApart 6 = .ok (.getfield 73, 3) := by decide +kernel
theorem dX12_isApart_9 : decode cX12_isApart 9 = .ok (.if_icmp .ge 38, 3) := by decide +kernel
theorem dX12_isApart_12 : decode cX12_isApart 12 = .ok (.iload_n 2, 1) := by decide +kernel
theorem dX12_isApart_13 : decode cX12_isApart 13 = .ok (.ifCond .eq 26, 3) := by decide +kernel
theorem dX12_isApart_16 : decode cX12_isApart 16 = .ok (.iload_n 1, 1) := by decide +kernel
theorem dX12_isApart_17 : decode cX12_isApart 17 = .ok (.iload_n 3, 1) := by decide +kernel
theorem dX12_isApart_18 : decode cX12_isApart 18 = .ok (.invokestatic 90, 3) := by decide +kernel
theorem dX12_isApart_21 : decode cX12_isApart 21 = .ok (.ifCond .eq 14, 3) := by decide +kernel
theorem dX12_isApart_24 : decode cX12_isApart 24 = .ok (.iload_n 1, 1) := by decide +kernel
theorem dX12_isApart_25 : decode cX12_isApart 25 = .ok (.aload_n 0, 1) := by decide +kernel
theorem dX12_isApart_26 : decode cX12_isApart 26 = .ok (.getfield 13, 3) := by decide +kernel
theorem dX12_isApart_29 : decode cX12_isApart 29 = .ok (.iload_n 3, 1) := by decide +kernel
theorem dX12_isApart_30 : decode cX12_isApart 30 = .ok (.iaload, 1) := by decide +kernel
theorem dX12_isApart_31 : decode cX12_isApart 31 = .ok (.iand, 1) := by decide +kernel
theorem dX12_isApart_32 : decode cX12_isApart 32 = .ok (.ifCond .ne 7, 3) := by decide +kernel
theorem dX12_isApart_35 : decode cX12_isApart 35 = .ok (.iconst 1, 1) := by decide +kernel
theorem dX12_isApart_36 : decode cX12_isApart 36 = .ok (.goto 4, 3) := by decide +kernel
theorem dX12_isApart_39 : decode cX12_isApart 39 = .ok (.iconst 0, 1) := by decide +kernel
theorem dX12_isApart_40 : decode cX12_isApart 40 = .ok (.istore_n 2, 1) := by decide +kernel
theorem dX12_isApart_41 : decode cX12_isApart 41 = .ok (.iinc 3 1, 3) := by decide +kernel
theorem dX12_isApart_44 : decode cX12_isApart 44 = .ok (.goto (-40), 3) := by decide +kernel
theorem dX12_isApart_47 : decode cX12_isApart 47 = .ok (.iload_n 2, 1) := by decide +kernel
theorem dX12_isApart_48 : decode cX12_isApart 48 = .ok (.ireturn, 1) := by decide +kernel
set_option maxRecDepth 20000 in
theorem ggX12_kindOf_X12_isClique : GoodIn wsX12_kindOf wsX12_isClique := goodIn_sub (gi_c 6 rfl (gi_a (gi_c 7 rfl (gi_c 1 rfl (gi_c 8 rfl (gi_c 9 rfl (gi_c 5 rfl (gi_c 10 rfl gi_n)))))) pz_X12_kindOf_X120)) (by decide +kernel)
set_option maxRecDepth 20000 in
theorem gX12_kindOf_X12_isClique : GoodIn wsX12_kindOf (wsV RX12 98 RX12 yX12_isClique wsX12_isClique) := goodIn_app (goodIn_of _ (by decide +kernel)) ggX12_kindOf_X12_isClique
set_option maxRecDepth 20000 in
theorem ggX12_kindOf_X12_all : GoodIn wsX12_kindOf wsX12_all := goodIn_sub (gi_c 14 rfl (gi_a (gi_c 7 rfl gi_n) pz_X12_kindOf_X120)) (by decide +kernel)
set_option maxRecDepth 20000 in
theorem gX12_kindOf_X12_all : GoodIn wsX12_kindOf (wsV RX12 101 RX12 yX12_all wsX12_all) := goodIn_app (goodIn_of _ (by decide +kernel)) ggX12_kindOf_X12_all
theorem dX12_kindOf_0 : decode cX12_kindOf 0 = .ok (.aload_n 0, 1) := by decide +kernel
theorem dX12_kindOf_1 : decode cX12_kindOf 1 = .ok (.getfield 13, 3) := by decide +kernel
theorem dX12_kindOf_4 : decode cX12_kindOf 4 = .ok (.iload_n 1, 1) := by decide +kernel
theorem dX12_kindOf_5 : decode cX12_kindOf 5 = .ok (.iaload, 1) := by decide +kernel
theorem dX12_kindOf_6 : decode cX12_kindOf 6 = .ok (.ifCond .ne 5, 3) := by decide +kernel
theorem dX12_kindOf_9 : decode cX12_kindOf 9 = .ok (.iconst 2, 1) := by decide +kernel
theorem dX12_kindOf_10 : decode cX12_kindOf 10 = .ok (.ireturn, 1) := by decide +kernel
theorem dX12_kindOf_11 : decode cX12_kindOf 11 = .ok (.aload_n 0, 1) := by decide +kernel
theorem dX12_kindOf_12 : decode cX12_kindOf 12 = .ok (.aload_n 0, 1) := by decide +kernel
theorem dX12_kindOf_13 : decode cX12_kindOf 13 = .ok (.getfield 13, 3) := by decide +kernel
theorem dX12_kindOf_16 : decode cX12_kindOf 16 = .ok (.iload_n 1, 1) := by decide +kernel
theorem dX12_kindOf_17 : decode cX12_kindOf 17 = .ok (.iaload, 1) := by decide +kernel
theorem dX12_kindOf_18 : decode cX12_kindOf 18 = .ok (.invokevirtual 98, 3) := by decide +kernel
theorem dX12_kindOf_21 : decode cX12_kindOf 21 = .ok (.ifCond .eq 7, 3) := by decide +kernel
theorem dX12_kindOf_24 : decode cX12_kindOf 24 = .ok (.iconst 1, 1) := by decide +kernel
theorem dX12_kindOf_25 : decode cX12_kindOf 25 = .ok (.goto 25, 3) := by decide +kernel
theorem dX12_kindOf_28 : decode cX12_kindOf 28 = .ok (.aload_n 0, 1) := by decide +kernel
theorem dX12_kindOf_29 : decode cX12_kindOf 29 = .ok (.getfield 13, 3) := by decide +kernel
theorem dX12_kindOf_32 : decode cX12_kindOf 32 = .ok (.iload_n 1, 1) := by decide +kernel
theorem dX12_kindOf_33 : decode cX12_kindOf 33 = .ok (.iaload, 1) := by decide +kernel
theorem dX12_kindOf_34 : decode cX12_kindOf 34 = .ok (.iconst 1, 1) := by decide +kernel
theorem dX12_kindOf_35 : decode cX12_kindOf 35 = .ok (.iload_n 1, 1) := by decide +kernel
theorem dX12_kindOf_36 : decode cX12_kindOf 36 = .ok (.ishl, 1) := by decide +kernel
theorem dX12_kindOf_37 : decode cX12_kindOf 37 = .ok (.ior, 1) := by decide +kernel
theorem dX12_kindOf_38 : decode cX12_kindOf 38 = .ok (.aload_n 0, 1) := by decide +kernel
theorem dX12_kindOf_39 : decode cX12_kindOf 39 = .ok (.invokevirtual 101, 3) := by decide +kernel
theorem dX12_kindOf_42 : decode cX12_kindOf 42 = .ok (.if_icmp .ne 7, 3) := by decide +kernel
theorem dX12_kindOf_45 : decode cX12_kindOf 45 = .ok (.iconst 3, 1) := by decide +kernel
theorem dX12_kindOf_46 : decode cX12_kindOf 46 = .ok (.goto 4, 3) := by decide +kernel
theorem dX12_kindOf_49 : decode cX12_kindOf 49 = .ok (.iconst 0, 1) := by decide +kernel
theorem dX12_kindOf_50 : decode cX12_kindOf 50 = .ok (.ireturn, 1) := by decide +kernel
set_option maxRecDepth 20000 in
theorem ggX12_kind_X12_isNode : GoodIn wsX12_kind wsX12_isNode := goodIn_sub (gi_t pz_X12_kind_X12_kind_r1 4 rfl (gi_a (gi_t pz_X12_kind_X12_kind_r1 5 rfl (gi_t pz_X12_kind_X12_kind_r1 6 rfl (gi_t pz_X12_kind_X12_kind_r1 7 rfl (gi_t pz_X12_kind_X12_kind_r1 3 rfl (gi_t pz_X12_kind_X12_kind_r1 8 rfl gi_n))))) pz_X12_kind_X120)) (by decide +kernel)
set_option maxRecDepth 20000 in
theorem gX12_kind_X12_isNode : GoodIn wsX12_kind (wsV RX12 86 RX12 yX12_isNode wsX12_isNode) := goodIn_app (goodIn_of _ (by decide +kernel)) ggX12_kind_X12_isNode
set_option maxRecDepth 20000 in
theorem ggX12_kind_X12_kindOf : GoodIn wsX12_kind wsX12_kindOf := goodIn_sub (gi_t pz_X12_kind_X12_kind_r1 12 rfl (gi_a (gi_t pz_X12_kind_X12_kind_r1 13 rfl (gi_t pz_X12_kind_X12_kind_r1 14 rfl (gi_t pz_X12_kind_X12_kind_r1 15 rfl (gi_t pz_X12_kind_X12_kind_r1 16 rfl (gi_t pz_X12_kind_X12_kind_r1 3 rfl (gi_t pz_X12_kind_X12_kind_r1 17 rfl (gi_t pz_X12_kind_X12_kind_r1 5 rfl (gi_t pz_X12_kind_X12_kind_r1 18 rfl (gi_t pz_X12_kind_X12_kind_r1 19 rfl (gi_t pz_X12_kind_X12_kind_r1 20 rfl (gi_t pz_X12_kind_X12_kind_r1 21 rfl (gi_t pz_X12_kind_X12_kind_r1 22 rfl (gi_t pz_X12_kind_X12_kind_r1 23 rfl (gi_t pz_X12_kind_X12_kind_r2 0 rfl gi_n)))))))))))))) pz_X12_kind_X120)) (by decide +kernel)
set_option maxRecDepth 20000 in
theorem gX12_kind_X12_kindOf : GoodIn wsX12_kind (wsV RX12 105 RX12 yX12_kindOf wsX12_kindOf) := goodIn_app (goodIn_of _ (by decide +kernel)) ggX12_kind_X12_kindOf
theorem dX12_kind_0 : decode cX12_kind 0 = .ok (.aload_n 0, 1) := by decide +kernel
theorem dX12_kind_1 : decode cX12_kind 1 = .ok (.iload_n 1, 1) := by decide +kernel
theorem dX12_kind_2 : decode cX12_kind 2 = .ok (.invokevirtual 86, 3) := by decide +kernel
theorem dX12_kind_5 : decode cX12_kind 5 = .ok (.ifCond .eq 11, 3) := by decide +kernel
theorem dX12_kind_8 : decode cX12_kind 8 = .ok (.aload_n 0, 1) := by decide +kernel
theorem dX12_kind_9 : decode cX12_kind 9 = .ok (.iload_n 1, 1) := by decide +kernel
theorem dX12_kind_10 : decode cX12_kind 10 = .ok (.invokevirtual 105, 3) := by decide +kernel
theorem dX12_kind_13 : decode cX12_kind 13 = .ok (.goto 4, 3) := by decide +kernel
theorem dX12_kind_16 : decode cX12_kind 16 = .ok (.iconst (-1), 1) := by decide +kernel
theorem dX12_kind_17 : decode cX12_kind 17 = .ok (.ireturn, 1) := by decide +kernel
set_option maxRecDepth 20000 in
theorem ggX12_degree_X12_isNode : GoodIn wsX12_degree wsX12_isNode := goodIn_sub (gi_t pz_X12_degree_X12_degree_r1 5 rfl (gi_a (gi_t pz_X12_degree_X12_degree_r1 6 rfl (gi_t pz_X12_degree_X12_degree_r1 7 rfl (gi_t pz_X12_degree_X12_degree_r1 8 rfl (gi_t pz_X12_degree_X12_degree_r1 4 rfl (gi_t pz_X12_degree_X12_degree_r1 9 rfl gi_n))))) pz_X12_degree_X120)) (by decide +kernel)
set_option maxRecDepth 20000 in
theorem gX12_degree_X12_isNode : GoodIn wsX12_degree (wsV RX12 86 RX12 yX12_isNode wsX12_isNode) := goodIn_app (goodIn_of _ (by decide +kernel)) ggX12_degree_X12_isNode
set_option maxRecDepth 20000 in
theorem ggX12_degree_X12_in : GoodIn wsX12_degree wsX12_in := goodIn_sub (gi_t pz_X12_degree_X12_degree_r1 9 rfl gi_n) (by decide +kernel)
set_option maxRecDepth 20000 in
theorem gX12_degree_X12_in : GoodIn wsX12_degree (va_wsS RX12 76 yX12_in wsX12_in) := goodIn_app (goodIn_of _ (by decide +kernel)) ggX12_degree_X12_in
set_option maxRecDepth 20000 in
theorem ggX12_degree_X12_kindOf : GoodIn wsX12_degree wsX12_kindOf := goodIn_sub (gi_t pz_X12_degree_X12_degree_r1 13 rfl (gi_a (gi_t pz_X12_degree_X12_degree_r1 0 rfl (gi_t pz_X12_degree_X12_degree_r1 14 rfl (gi_t pz_X12_degree_X12_degree_r1 15 rfl (gi_t pz_X12_degree_X12_degree_r1 16 rfl (gi_t pz_X12_degree_X12_degree_r1 4 rfl (gi_t pz_X12_degree_X12_degree_r1 17 rfl (gi_t pz_X12_degree_X12_degree_r1 6 rfl (gi_t pz_X12_degree_X12_degree_r1 18 rfl (gi_t pz_X12_degree_X12_degree_r1 19 rfl (gi_t pz_X12_degree_X12_degree_r1 20 rfl (gi_t pz_X12_degree_X12_degree_r1 21 rfl (gi_t pz_X12_degree_X12_degree_r1 22 rfl (gi_t pz_X12_degree_X12_degree_r1 23 rfl (gi_t pz_X12_degree_X12_degree_r2 0 rfl gi_n)))))))))))))) pz_X12_degree_X120)) (by decide +kernel)
set_option maxRecDepth 20000 in
theorem gX12_degree_X12_kindOf : GoodIn wsX12_degree (wsV RX12 105 RX12 yX12_kindOf wsX12_kindOf) := goodIn_app (goodIn_of _ (by decide +kernel)) ggX12_degree_X12_kindOf
set_option maxRecDepth 20000 in
theorem ggX12_degree_X12_bits : GoodIn wsX12_degree wsX12_bits := goodIn_sub (gi_t pz_X12_degree_X12_degree_r2 3 rfl gi_n) (by decide +kernel)
set_option maxRecDepth 20000 in
theorem gX12_degree_X12_bits : GoodIn wsX12_degree (va_wsS RX12 109 yX12_bits wsX12_bits) := goodIn_app (goodIn_of _ (by decide +kernel)) ggX12_degree_X12_bits
set_option maxRecDepth 20000 in
theorem ggX12_degree_X12_meets : GoodIn wsX12_degree wsX12_meets := goodIn_sub (gi_t pz_X12_degree_X12_degree_r2 7 rfl (gi_a (gi_t pz_X12_degree_X12_degree_r2 8 rfl (gi_t pz_X12_degree_X12_degree_r2 9 rfl gi_n)) pz_X12_degree_X120)) (by decide +kernel)
set_option maxRecDepth 20000 in
theorem gX12_degree_X12_meets : GoodIn wsX12_degree (wsV RX12 112 RX12 yX12_meets wsX12_meets) := goodIn_app (goodIn_of _ (by decide +kernel)) ggX12_degree_X12_meets
theorem dX12_degree_0 : decode cX12_degree 0 = .ok (.aload_n 0, 1) := by decide +kernel
theorem dX12_degree_1 : decode cX12_degree 1 = .ok (.iload_n 1, 1) := by decide +kernel
theorem dX12_degree_2 : decode cX12_degree 2 = .ok (.invokevirtual 86, 3) := by decide +kernel
theorem dX12_degree_5 : decode cX12_degree 5 = .ok (.ifCond .eq 12, 3) := by decide +kernel
theorem dX12_degree_8 : decode cX12_degree 8 = .ok (.iload_n 2, 1) := by decide +kernel
theorem dX12_degree_9 : decode cX12_degree 9 = .ok (.iconst 0, 1) := by decide +kernel
theorem dX12_degree_10 : decode cX12_degree 10 = .ok (.iconst 3, 1) := by decide +kernel
theorem dX12_degree_11 : decode cX12_degree 11 = .ok (.invokestatic 76, 3) := by decide +kernel
theorem dX12_degree_14 : decode cX12_degree 14 = .ok (.ifCond .ne 5, 3) := by decide +kernel
theorem dX12_degree_17 : decode cX12_degree 17 = .ok (.iconst (-1), 1) := by decide +kernel
theorem dX12_degree_18 : decode cX12_degree 18 = .ok (.ireturn, 1) := by decide +kernel
theorem dX12_degree_19 : decode cX12_degree 19 = .ok (.aload_n 0, 1) := by decide +kernel
theorem dX12_degree_20 : decode cX12_degree 20 = .ok (.iload_n 1, 1) := by decide +kernel
theorem dX12_degree_21 : decode cX12_degree 21 = .ok (.invokevirtual 105, 3) := by decide +kernel
theorem dX12_degree_24 : decode cX12_degree 24 = .ok (.istore_n 3, 1) := by decide +kernel
theorem dX12_degree_25 : decode cX12_degree 25 = .ok (.iload_n 2, 1) := by decide +kernel
theorem dX12_degree_26 : decode cX12_degree 26 = .ok (.ifCond .eq 18, 3) := by decide +kernel
theorem dX12_degree_29 : decode cX12_degree 29 = .ok (.iload_n 2, 1) := by decide +kernel
theorem dX12_degree_30 : decode cX12_degree 30 = .ok (.iload_n 3, 1) := by decide +kernel
theorem dX12_degree_31 : decode cX12_degree 31 = .ok (.if_icmp .eq 13, 3) := by decide +kernel
theorem dX12_degree_34 : decode cX12_degree 34 = .ok (.iload_n 2, 1) := by decide +kernel
theorem dX12_degree_35 : decode cX12_degree 35 = .ok (.iconst 1, 1) := by decide +kernel
theorem dX12_degree_36 : decode cX12_degree 36 = .ok (.if_icmp .ne 20, 3) := by decide +kernel
theorem dX12_degree_39 : decode cX12_degree 39 = .ok (.iload_n 3, 1) := by decide +kernel
theorem dX12_degree_40 : decode cX12_degree 40 = .ok (.iconst 2, 1) := by decide +kernel
theorem dX12_degree_41 : decode cX12_degree 41 = .ok (.if_icmp .ne 15, 3) := by decide +kernel
theorem dX12_degree_44 : decode cX12_degree 44 = .ok (.aload_n 0, 1) := by decide +kernel
theorem dX12_degree_45 : decode cX12_degree 45 = .ok (.getfield 13, 3) := by decide +kernel
theorem dX12_degree_48 : decode cX12_degree 48 = .ok (.iload_n 1, 1) := by decide +kernel
theorem dX12_degree_49 : decode cX12_degree 49 = .ok (.iaload, 1) := by decide +kernel
theorem dX12_degree_50 : decode cX12_degree 50 = .ok (.invokestatic 109, 3) := by decide +kernel
theorem dX12_degree_53 : decode cX12_degree 53 = .ok (.goto 8, 3) := by decide +kernel
theorem dX12_degree_56 : decode cX12_degree 56 = .ok (.aload_n 0, 1) := by decide +kernel
theorem dX12_degree_57 : decode cX12_degree 57 = .ok (.iconst 3, 1) := by decide +kernel
theorem dX12_degree_58 : decode cX12_degree 58 = .ok (.invokevirtual 112, 3) := by decide +kernel
theorem dX12_degree_61 : decode cX12_degree 61 = .ok (.ireturn, 1) := by decide +kernel
set_option maxRecDepth 20000 in
theorem ggX12_isSound_X12_all : GoodIn wsX12_isSound wsX12_all := goodIn_sub (gi_c 7 rfl (gi_a (gi_c 1 rfl gi_n) pz_X12_isSound_X120)) (by decide +kernel)
set_option maxRecDepth 20000 in
theorem gX12_isSound_X12_all : GoodIn wsX12_isSound (wsV RX12 101 RX12 yX12_all wsX12_all) := goodIn_app (goodIn_of _ (by decide +kernel)) ggX12_isSound_X12_all
set_option maxRecDepth 20000 in
theorem ggX12_isSound_X12_has : GoodIn wsX12_isSound wsX12_has := goodIn_sub (gi_c 10 rfl gi_n) (by decide +kernel)
set_option maxRecDepth 20000 in
theorem gX12_isSound_X12_has : GoodIn wsX12_isSound (va_wsS RX12 90 yX12_has wsX12_has) := goodIn_app (goodIn_of _ (by decide +kernel)) ggX12_isSound_X12_has
set_option maxRecDepth 20000 in
theorem ggX12_isSound_X12_isClique : GoodIn wsX12_isSound wsX12_isClique := goodIn_sub (gi_c 14 rfl (gi_a (gi_c 1 rfl (gi_c 2 rfl (gi_c 8 rfl (gi_c 9 rfl (gi_c 6 rfl (gi_c 10 rfl gi_n)))))) pz_X12_isSound_X120)) (by decide +kernel)
set_option maxRecDepth 20000 in
theorem gX12_isSound_X12_isClique : GoodIn wsX12_isSound (wsV RX12 98 RX12 yX12_isClique wsX12_isClique) := goodIn_app (goodIn_of _ (by decide +kernel)) ggX12_isSound_X12_isClique
theorem dX12_isSound_0 : decode cX12_isSound 0 = .ok (.aload_n 0, 1) := by decide +kernel
theorem dX12_isSound_1 : decode cX12_isSound 1 = .ok (.invokevirtual 101, 3) := by decide +kernel
theorem dX12_isSound_4 : decode cX12_isSound 4 = .ok (.istore_n 1, 1) := by decide +kernel
theorem dX12_isSound_5 : decode cX12_isSound 5 = .ok (.iconst 1, 1) := by decide +kernel
theorem dX12_isSound_6 : decode cX12_isSound 6 = .ok (.istore_n 2, 1) := by decide +kernel
theorem dX12_isSound_7 : decode cX12_isSound 7 = .ok (.iload_n 2, 1) := by decide +kernel
theorem dX12_isSound_8 : decode cX12_isSound 8 = .ok (.ifCond .eq 57, 3) := by decide +kernel
theorem dX12_isSound_11 : decode cX12_isSound 11 = .ok (.iconst 0, 1) := by decide +kernel
theorem dX12_isSound_12 : decode cX12_isSound 12 = .ok (.istore_n 2, 1) := by decide +kernel
theorem dX12_isSound_13 : decode cX12_isSound 13 = .ok (.iconst 0, 1) := by decide +kernel
theorem dX12_isSound_14 : decode cX12_isSound 14 = .ok (.istore_n 3, 1) := by decide +kernel
theorem dX12_isSound_15 : decode cX12_isSound 15 = .ok (.iload_n 3, 1) := by decide +kernel
theorem dX12_isSound_16 : decode cX12_isSound 16 = .ok (.aload_n 0, 1) := by decide +kernel
theorem dX12_isSound_17 : decode cX12_isSound 17 = .ok (.getfield 73, 3) := by decide +kernel
theorem dX12_isSound_20 : decode cX12_isSound 20 = .ok (.if_icmp .ge 42, 3) := by decide +kernel
theorem dX12_isSound_23 : decode cX12_isSound 23 = .ok (.iload_n 1, 1) := by decide +kernel
theorem dX12_isSound_24 : decode cX12_isSound 24 = .ok (.iload_n 3, 1) := by decide +kernel
theorem dX12_isSound_25 : decode cX12_isSound 25 = .ok (.invokestatic 90, 3) := by decide +kernel
theorem dX12_isSound_28 : decode cX12_isSound 28 = .ok (.ifCond .eq 28, 3) := by decide +kernel
theorem dX12_isSound_31 : decode cX12_isSound 31 = .ok (.aload_n 0, 1) := by decide +kernel
theorem dX12_isSound_32 : decode cX12_isSound 32 = .ok (.aload_n 0, 1) := by decide +kernel
theorem dX12_isSound_33 : decode cX12_isSound 33 = .ok (.getfield 13, 3) := by decide +kernel
theorem dX12_isSound_36 : decode cX12_isSound 36 = .ok (.iload_n 3, 1) := by decide +kernel
theorem dX12_isSound_37 : decode cX12_isSound 37 = .ok (.iaload, 1) := by decide +kernel
theorem dX12_isSound_38 : decode cX12_isSound 38 = .ok (.iload_n 1, 1) := by decide +kernel
theorem dX12_isSound_39 : decode cX12_isSound 39 = .ok (.iand, 1) := by decide +kernel
theorem dX12_isSound_40 : decode cX12_isSound 40 = .ok (.invokevirtual 98, 3) := by decide +kernel
theorem dX12_isSound_43 : decode cX12_isSound 43 = .ok (.ifCond .eq 13, 3) := by decide +kernel
theorem dX12_isSound_46 : decode cX12_isSound 46 = .ok (.iload_n 1, 1) := by decide +kernel
theorem dX12_isSound_47 : decode cX12_isSound 47 = .ok (.iconst 1, 1) := by decide +kernel
theorem dX12_isSound_48 : decode cX12_isSound 48 = .ok (.iload_n 3, 1) := by decide +kernel
theorem dX12_isSound_49 : decode cX12_isSound 49 = .ok (.ishl, 1) := by decide +kernel
theorem dX12_isSound_50 : decode cX12_isSound 50 = .ok (.iconst (-1), 1) := by decide +kernel
theorem dX12_isSound_51 : decode cX12_isSound 51 = .ok (.ixor, 1) := by decide +kernel
theorem dX12_isSound_52 : decode cX12_isSound 52 = .ok (.iand, 1) := by decide +kernel
theorem dX12_isSound_53 : decode cX12_isSound 53 = .ok (.istore_n 1, 1) := by decide +kernel
theorem dX12_isSound_54 : decode cX12_isSound 54 = .ok (.iconst 1, 1) := by decide +kernel
theorem dX12_isSound_55 : decode cX12_isSound 55 = .ok (.istore_n 2, 1) := by decide +kernel
theorem dX12_isSound_56 : decode cX12_isSound 56 = .ok (.iinc 3 1, 3) := by decide +kernel
theorem dX12_isSound_59 : decode cX12_isSound 59 = .ok (.goto (-44), 3) := by decide +kernel
theorem dX12_isSound_62 : decode cX12_isSound 62 = .ok (.goto (-55), 3) := by decide +kernel
theorem dX12_isSound_65 : decode cX12_isSound 65 = .ok (.iload_n 1, 1) := by decide +kernel
theorem dX12_isSound_66 : decode cX12_isSound 66 = .ok (.ifCond .ne 7, 3) := by decide +kernel
theorem dX12_isSound_69 : decode cX12_isSound 69 = .ok (.iconst 1, 1) := by decide +kernel
theorem dX12_isSound_70 : decode cX12_isSound 70 = .ok (.goto 4, 3) := by decide +kernel
theorem dX12_isSound_73 : decode cX12_isSound 73 = .ok (.iconst 0, 1) := by decide +kernel
theorem dX12_isSound_74 : decode cX12_isSound 74 = .ok (.ireturn, 1) := by decide +kernel
set_option maxRecDepth 20000 in
theorem ggX12_sound_X12_isSound : GoodIn wsX12_sound wsX12_isSound := goodIn_sub (gi_c 5 rfl (gi_a (gi_c 6 rfl (gi_c 7 rfl (gi_c 8 rfl (gi_c 9 rfl (gi_c 10 rfl (gi_c 4 rfl (gi_c 11 rfl (gi_c 12 rfl (gi_c 13 rfl (gi_c 14 rfl (gi_c 15 rfl (gi_c 16 rfl (gi_c 17 rfl (gi_c 18 rfl gi_n)))))))))))))) pz_X12_sound_X120)) (by decide +kernel)
set_option maxRecDepth 20000 in
theorem gX12_sound_X12_isSound : GoodIn wsX12_sound (wsV RX12 115 RX12 yX12_isSound wsX12_isSound) := goodIn_app (goodIn_of _ (by decide +kernel)) ggX12_sound_X12_isSound
theorem dX12_sound_0 : decode cX12_sound 0 = .ok (.aload_n 0, 1) := by decide +kernel
theorem dX12_sound_1 : decode cX12_sound 1 = .ok (.invokevirtual 115, 3) := by decide +kernel
theorem dX12_sound_4 : decode cX12_sound 4 = .ok (.ifCond .eq 7, 3) := by decide +kernel
theorem dX12_sound_7 : decode cX12_sound 7 = .ok (.iconst 1, 1) := by decide +kernel
theorem dX12_sound_8 : decode cX12_sound 8 = .ok (.goto 4, 3) := by decide +kernel
theorem dX12_sound_11 : decode cX12_sound 11 = .ok (.iconst 0, 1) := by decide +kernel
theorem dX12_sound_12 : decode cX12_sound 12 = .ok (.ireturn, 1) := by decide +kernel
set_option maxRecDepth 20000 in
theorem ggX12_goesOn_X12_has : GoodIn wsX12_goesOn wsX12_has := goodIn_sub (gi_c 7 rfl gi_n) (by decide +kernel)
set_option maxRecDepth 20000 in
theorem gX12_goesOn_X12_has : GoodIn wsX12_goesOn (va_wsS RX12 90 yX12_has wsX12_has) := goodIn_app (goodIn_of _ (by decide +kernel)) ggX12_goesOn_X12_has
set_option maxRecDepth 20000 in
theorem ggX12_goesOn_X12_goesOn : GoodIn wsX12_goesOn wsX12_goesOn := goodIn_sub (gi_c 0 rfl (gi_a (gi_c 1 rfl (gi_c 2 rfl (gi_c 3 rfl (gi_c 4 rfl (gi_c 5 rfl (gi_c 6 rfl (gi_c 7 rfl (gi_c 8 rfl (gi_c 9 rfl (gi_c 10 rfl gi_n)))))))))) pz_X12_goesOn_X120)) (by decide +kernel)
set_option maxRecDepth 20000 in
theorem gX12_goesOn_X12_goesOn : GoodIn wsX12_goesOn (wsV RX12 119 RX12 yX12_goesOn wsX12_goesOn) := goodIn_app (goodIn_of _ (by decide +kernel)) ggX12_goesOn_X12_goesOn
theorem dX12_goesOn_0 : decode cX12_goesOn 0 = .ok (.aload_n 0, 1) := by decide +kernel
theorem dX12_goesOn_1 : decode cX12_goesOn 1 = .ok (.getfield 19, 3) := by decide +kernel
theorem dX12_goesOn_4 : decode cX12_goesOn 4 = .ok (.iload_n 1, 1) := by decide +kernel
theorem dX12_goesOn_5 : decode cX12_goesOn 5 = .ok (.iconst 1, 1) := by decide +kernel
theorem dX12_goesOn_6 : decode cX12_goesOn 6 = .ok (.isub, 1) := by decide +kernel
theorem dX12_goesOn_7 : decode cX12_goesOn 7 = .ok (.iaload, 1) := by decide +kernel
theorem dX12_goesOn_8 : decode cX12_goesOn 8 = .ok (.istore_n 3, 1) := by decide +kernel
theorem dX12_goesOn_9 : decode cX12_goesOn 9 = .ok (.aload_n 0, 1) := by decide +kernel
theorem dX12_goesOn_10 : decode cX12_goesOn 10 = .ok (.getfield 19, 3) := by decide +kernel
theorem dX12_goesOn_13 : decode cX12_goesOn 13 = .ok (.iconst 0, 1) := by decide +kernel
theorem dX12_goesOn_14 : decode cX12_goesOn 14 = .ok (.iaload, 1) := by decide +kernel
theorem dX12_goesOn_15 : decode cX12_goesOn 15 = .ok (.iconst 1, 1) := by decide +kernel
theorem dX12_goesOn_16 : decode cX12_goesOn 16 = .ok (.iadd, 1) := by decide +kernel
theorem dX12_goesOn_17 : decode cX12_goesOn 17 = .ok (.istore 4, 2) := by decide +kernel
theorem dX12_goesOn_19 : decode cX12_goesOn 19 = .ok (.iload 4, 2) := by decide +kernel
theorem dX12_goesOn_21 : decode cX12_goesOn 21 = .ok (.aload_n 0, 1) := by decide +kernel
theorem dX12_goesOn_22 : decode cX12_goesOn 22 = .ok (.getfield 73, 3) := by decide +kernel
theorem dX12_goesOn_25 : decode cX12_goesOn 25 = .ok (.if_icmp .ge 168, 3) := by decide +kernel
theorem dX12_goesOn_28 : decode cX12_goesOn 28 = .ok (.iconst 0, 1) := by decide +kernel
theorem dX12_goesOn_29 : decode cX12_goesOn 29 = .ok (.istore 5, 2) := by decide +kernel
theorem dX12_goesOn_31 : decode cX12_goesOn 31 = .ok (.iconst 0, 1) := by decide +kernel
theorem dX12_goesOn_32 : decode cX12_goesOn 32 = .ok (.istore 6, 2) := by decide +kernel
theorem dX12_goesOn_34 : decode cX12_goesOn 34 = .ok (.iconst 0, 1) := by decide +kernel
theorem dX12_goesOn_35 : decode cX12_goesOn 35 = .ok (.istore 7, 2) := by decide +kernel
theorem dX12_goesOn_37 : decode cX12_goesOn 37 = .ok (.iload 7, 2) := by decide +kernel
theorem dX12_goesOn_39 : decode cX12_goesOn 39 = .ok (.iload_n 1, 1) := by decide +kernel
theorem dX12_goesOn_40 : decode cX12_goesOn 40 = .ok (.if_icmp .ge 66, 3) := by decide +kernel
theorem dX12_goesOn_43 : decode cX12_goesOn 43 = .ok (.iload 6, 2) := by decide +kernel
theorem dX12_goesOn_45 : decode cX12_goesOn 45 = .ok (.ifCond .ne 15, 3) := by decide +kernel
theorem dX12_goesOn_48 : decode cX12_goesOn 48 = .ok (.aload_n 0, 1) := by decide +kernel
theorem dX12_goesOn_49 : decode cX12_goesOn 49 = .ok (.getfield 19, 3) := by decide +kernel
theorem dX12_goesOn_52 : decode cX12_goesOn 52 = .ok (.iload 7, 2) := by decide +kernel
theorem dX12_goesOn_54 : decode cX12_goesOn 54 = .ok (.iaload, 1) := by decide +kernel
theorem dX12_goesOn_55 : decode cX12_goesOn 55 = .ok (.iload 4, 2) := by decide +kernel
theorem dX12_goesOn_57 : decode cX12_goesOn 57 = .ok (.if_icmp .ne 7, 3) := by decide +kernel
theorem dX12_goesOn_60 : decode cX12_goesOn 60 = .ok (.iconst 1, 1) := by decide +kernel
theorem dX12_goesOn_61 : decode cX12_goesOn 61 = .ok (.goto 4, 3) := by decide +kernel
theorem dX12_goesOn_64 : decode cX12_goesOn 64 = .ok (.iconst 0, 1) := by decide +kernel
theorem dX12_goesOn_65 : decode cX12_goesOn 65 = .ok (.istore 6, 2) := by decide +kernel
theorem dX12_goesOn_67 : decode cX12_goesOn 67 = .ok (.iload 5, 2) := by decide +kernel
theorem dX12_goesOn_69 : decode cX12_goesOn 69 = .ok (.aload_n 0, 1) := by decide +kernel
theorem dX12_goesOn_70 : decode cX12_goesOn 70 = .ok (.getfield 13, 3) := by decide +kernel
theorem dX12_goesOn_73 : decode cX12_goesOn 73 = .ok (.iload 4, 2) := by decide +kernel
theorem dX12_goesOn_75 : decode cX12_goesOn 75 = .ok (.iaload, 1) := by decide +kernel
theorem dX12_goesOn_76 : decode cX12_goesOn 76 = .ok (.aload_n 0, 1) := by decide +kernel
theorem dX12_goesOn_77 : decode cX12_goesOn 77 = .ok (.getfield 19, 3) := by decide +kernel
theorem dX12_goesOn_80 : decode cX12_goesOn 80 = .ok (.iload 7, 2) := by decide +kernel
theorem dX12_goesOn_82 : decode cX12_goesOn 82 = .ok (.iaload, 1) := by decide +kernel
theorem dX12_goesOn_83 : decode cX12_goesOn 83 = .ok (.invokestatic 90, 3) := by decide +kernel
theorem dX12_goesOn_86 : decode cX12_goesOn 86 = .ok (.ifCond .eq 10, 3) := by decide +kernel
theorem dX12_goesOn_89 : decode cX12_goesOn 89 = .ok (.iconst 1, 1) := by decide +kernel
theorem dX12_goesOn_90 : decode cX12_goesOn 90 = .ok (.iload 7, 2) := by decide +kernel
theorem dX12_goesOn_92 : decode cX12_goesOn 92 = .ok (.ishl, 1) := by decide +kernel
theorem dX12_goesOn_93 : decode cX12_goesOn 93 = .ok (.goto 4, 3) := by decide +kernel
theorem dX12_goesOn_96 : decode cX12_goesOn 96 = .ok (.iconst 0, 1) := by decide +kernel
theorem dX12_goesOn_97 : decode cX12_goesOn 97 = .ok (.ior, 1) := by decide +kernel
theorem dX12_goesOn_98 : decode cX12_goesOn 98 = .ok (.istore 5, 2) := by decide +kernel
theorem dX12_goesOn_100 : decode cX12_goesOn 100 = .ok (.iinc 7 1, 3) := by decide +kernel
theorem dX12_goesOn_103 : decode cX12_goesOn 103 = .ok (.goto (-66), 3) := by decide +kernel
