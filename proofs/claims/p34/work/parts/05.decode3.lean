theorem pz_X6_drafted_X60 : ∀ x ∈ wsX60, x ∈ wsX6_drafted := fun _ h => (List.mem_cons_of_mem _ (List.mem_append_right _ h))
theorem pz_X6_begin_X40 : ∀ x ∈ wsX40, x ∈ wsX6_begin := fun _ h => (List.mem_cons_of_mem _ (List.mem_append_left _ (List.mem_append_right _ h)))
theorem pz_X6_begin_X30 : ∀ x ∈ wsX30, x ∈ wsX6_begin := fun _ h => (List.mem_cons_of_mem _ (List.mem_append_right _ h))
theorem pz_X6_place_X6_place_r2 : ∀ x ∈ wsX6_place_r2, x ∈ wsX6_place := fun _ h => (List.mem_cons_of_mem _ (List.mem_append_left _ (List.mem_append_left _ (List.mem_append_right _ h))))
theorem pz_X6_place_X6_place_r1 : ∀ x ∈ wsX6_place_r1, x ∈ wsX6_place := fun _ h => (List.mem_cons_of_mem _ (List.mem_append_left _ (List.mem_append_left _ (List.mem_append_left _ h))))
theorem pz_X6_place_X30 : ∀ x ∈ wsX30, x ∈ wsX6_place := fun _ h => (List.mem_cons_of_mem _ (List.mem_append_right _ h))
theorem pz_X6_followDraft_X6_followDraft_r1 : ∀ x ∈ wsX6_followDraft_r1, x ∈ wsX6_followDraft := fun _ h => (List.mem_cons_of_mem _ (List.mem_append_left _ (List.mem_append_left _ (List.mem_append_left _ (List.mem_append_left _ h)))))
theorem pz_X6_followDraft_X60 : ∀ x ∈ wsX60, x ∈ wsX6_followDraft := fun _ h => (List.mem_cons_of_mem _ (List.mem_append_left _ (List.mem_append_left _ (List.mem_append_right _ h))))
theorem pz_X6_followDraft_X40 : ∀ x ∈ wsX40, x ∈ wsX6_followDraft := fun _ h => (List.mem_cons_of_mem _ (List.mem_append_left _ (List.mem_append_right _ h)))
theorem pz_X6_followDraft_X30 : ∀ x ∈ wsX30, x ∈ wsX6_followDraft := fun _ h => (List.mem_cons_of_mem _ (List.mem_append_right _ h))
theorem pz_X6_followDraft_X6_followDraft_r2 : ∀ x ∈ wsX6_followDraft_r2, x ∈ wsX6_followDraft := fun _ h => (List.mem_cons_of_mem _ (List.mem_append_left _ (List.mem_append_left _ (List.mem_append_left _ (List.mem_append_right _ (List.mem_append_left _ h))))))
theorem pz_X6_followDraft_X6_followDraft_r3 : ∀ x ∈ wsX6_followDraft_r3, x ∈ wsX6_followDraft := fun _ h => (List.mem_cons_of_mem _ (List.mem_append_left _ (List.mem_append_left _ (List.mem_append_left _ (List.mem_append_right _ (List.mem_append_right _ h))))))
theorem pz_X6_followRule_X6_followRule_r1 : ∀ x ∈ wsX6_followRule_r1, x ∈ wsX6_followRule := fun _ h => (List.mem_cons_of_mem _ (List.mem_append_left _ (List.mem_append_left _ (List.mem_append_left _ (List.mem_append_left _ h)))))
theorem pz_X6_followRule_X60 : ∀ x ∈ wsX60, x ∈ wsX6_followRule := fun _ h => (List.mem_cons_of_mem _ (List.mem_append_left _ (List.mem_append_left _ (List.mem_append_right _ h))))
theorem pz_X6_followRule_X40 : ∀ x ∈ wsX40, x ∈ wsX6_followRule := fun _ h => (List.mem_cons_of_mem _ (List.mem_append_left _ (List.mem_append_right _ h)))
theorem pz_X6_followRule_X30 : ∀ x ∈ wsX30, x ∈ wsX6_followRule := fun _ h => (List.mem_cons_of_mem _ (List.mem_append_right _ h))
theorem pz_X6_followRule_X6_followRule_r2 : ∀ x ∈ wsX6_followRule_r2, x ∈ wsX6_followRule := fun _ h => (List.mem_cons_of_mem _ (List.mem_append_left _ (List.mem_append_left _ (List.mem_append_left _ (List.mem_append_right _ (List.mem_append_left _ h))))))
theorem pz_X6_followRule_X6_followRule_r3 : ∀ x ∈ wsX6_followRule_r3, x ∈ wsX6_followRule := fun _ h => (List.mem_cons_of_mem _ (List.mem_append_left _ (List.mem_append_left _ (List.mem_append_left _ (List.mem_append_right _ (List.mem_append_right _ h))))))
theorem pz_X6_followLeast_X6_followLeast_r1 : ∀ x ∈ wsX6_followLeast_r1, x ∈ wsX6_followLeast := fun _ h => (List.mem_cons_of_mem _ (List.mem_append_left _ (List.mem_append_left _ (List.mem_append_left _ (List.mem_append_left _ (List.mem_append_left _ h))))))
theorem pz_X6_followLeast_X60 : ∀ x ∈ wsX60, x ∈ wsX6_followLeast := fun _ h => (List.mem_cons_of_mem _ (List.mem_append_left _ (List.mem_append_left _ (List.mem_append_left _ (List.mem_append_right _ h)))))
theorem pz_X6_followLeast_X40 : ∀ x ∈ wsX40, x ∈ wsX6_followLeast := fun _ h => (List.mem_cons_of_mem _ (List.mem_append_left _ (List.mem_append_left _ (List.mem_append_right _ h))))
theorem pz_X6_followLeast_X30 : ∀ x ∈ wsX30, x ∈ wsX6_followLeast := fun _ h => (List.mem_cons_of_mem _ (List.mem_append_left _ (List.mem_append_right _ h)))
theorem pz_X6_followLeast_X6_followLeast_r2 : ∀ x ∈ wsX6_followLeast_r2, x ∈ wsX6_followLeast := fun _ h => (List.mem_cons_of_mem _ (List.mem_append_left _ (List.mem_append_left _ (List.mem_append_left _ (List.mem_append_left _ (List.mem_append_right _ (List.mem_append_left _ h)))))))
theorem pz_X6_followLeast_X6_followLeast_r3 : ∀ x ∈ wsX6_followLeast_r3, x ∈ wsX6_followLeast := fun _ h => (List.mem_cons_of_mem _ (List.mem_append_left _ (List.mem_append_left _ (List.mem_append_left _ (List.mem_append_left _ (List.mem_append_right _ (List.mem_append_right _ (List.mem_append_left _ h))))))))
theorem pz_X6_followLeast_X6_followLeast_r4 : ∀ x ∈ wsX6_followLeast_r4, x ∈ wsX6_followLeast := fun _ h => (List.mem_cons_of_mem _ (List.mem_append_left _ (List.mem_append_left _ (List.mem_append_left _ (List.mem_append_left _ (List.mem_append_right _ (List.mem_append_right _ (List.mem_append_right _ (List.mem_append_left _ h)))))))))
theorem pz_X6_followLeast_X6_followLeast_r5 : ∀ x ∈ wsX6_followLeast_r5, x ∈ wsX6_followLeast := fun _ h => (List.mem_cons_of_mem _ (List.mem_append_left _ (List.mem_append_left _ (List.mem_append_left _ (List.mem_append_left _ (List.mem_append_right _ (List.mem_append_right _ (List.mem_append_right _ (List.mem_append_right _ h)))))))))
theorem pz_X6_followLeast_X50 : ∀ x ∈ wsX50, x ∈ wsX6_followLeast := fun _ h => (List.mem_cons_of_mem _ (List.mem_append_right _ h))
theorem pz_X6_fillIn_X6_fillIn_r1 : ∀ x ∈ wsX6_fillIn_r1, x ∈ wsX6_fillIn := fun _ h => (List.mem_cons_of_mem _ (List.mem_append_left _ (List.mem_append_left _ (List.mem_append_left _ (List.mem_append_left _ h)))))
theorem pz_X6_fillIn_X40 : ∀ x ∈ wsX40, x ∈ wsX6_fillIn := fun _ h => (List.mem_cons_of_mem _ (List.mem_append_right _ h))
theorem pz_X6_fillIn_X30 : ∀ x ∈ wsX30, x ∈ wsX6_fillIn := fun _ h => (List.mem_cons_of_mem _ (List.mem_append_left _ (List.mem_append_right _ h)))
theorem pz_X6_fillIn_X6_fillIn_r2 : ∀ x ∈ wsX6_fillIn_r2, x ∈ wsX6_fillIn := fun _ h => (List.mem_cons_of_mem _ (List.mem_append_left _ (List.mem_append_left _ (List.mem_append_left _ (List.mem_append_right _ h)))))
theorem pz_X7_bring_X40 : ∀ x ∈ wsX40, x ∈ wsX7_bring := fun _ h => (List.mem_cons_of_mem _ (List.mem_append_right _ h))
theorem pz_X7_bring_X70 : ∀ x ∈ wsX70, x ∈ wsX7_bring := fun _ h => (List.mem_cons_of_mem _ (List.mem_append_left _ (List.mem_append_right _ h)))
theorem pz_X7_paints_X40 : ∀ x ∈ wsX40, x ∈ wsX7_paints := fun _ h => (List.mem_cons_of_mem _ (List.mem_append_left _ (List.mem_append_right _ h)))
theorem pz_X7_paints_X70 : ∀ x ∈ wsX70, x ∈ wsX7_paints := fun _ h => (List.mem_cons_of_mem _ (List.mem_append_right _ h))
theorem pz_X8_bring_X8_bring_r1 : ∀ x ∈ wsX8_bring_r1, x ∈ wsX8_bring := fun _ h => (List.mem_cons_of_mem _ (List.mem_append_left _ (List.mem_append_left _ (List.mem_append_left _ h))))
theorem pz_X8_bring_X40 : ∀ x ∈ wsX40, x ∈ wsX8_bring := fun _ h => (List.mem_cons_of_mem _ (List.mem_append_right _ h))
theorem pz_X8_bring_X8_bring_r2 : ∀ x ∈ wsX8_bring_r2, x ∈ wsX8_bring := fun _ h => (List.mem_cons_of_mem _ (List.mem_append_left _ (List.mem_append_left _ (List.mem_append_right _ h))))
theorem pz_X8_bring_X80 : ∀ x ∈ wsX80, x ∈ wsX8_bring := fun _ h => (List.mem_cons_of_mem _ (List.mem_append_left _ (List.mem_append_right _ h)))
theorem pz_X8_isPart_X8_isPart_r1 : ∀ x ∈ wsX8_isPart_r1, x ∈ wsX8_isPart := fun _ h => (List.mem_cons_of_mem _ (List.mem_append_left _ (List.mem_append_left _ (List.mem_append_left _ h))))
theorem pz_X8_isPart_X40 : ∀ x ∈ wsX40, x ∈ wsX8_isPart := fun _ h => (List.mem_cons_of_mem _ (List.mem_append_right _ h))
theorem pz_X8_isPart_X8_isPart_r2 : ∀ x ∈ wsX8_isPart_r2, x ∈ wsX8_isPart := fun _ h => (List.mem_cons_of_mem _ (List.mem_append_left _ (List.mem_append_left _ (List.mem_append_right _ h))))
theorem pz_X9_bring_X9_bring_r2 : ∀ x ∈ wsX9_bring_r2, x ∈ wsX9_bring := fun _ h => (List.mem_cons_of_mem _ (List.mem_append_left _ (List.mem_append_left _ (List.mem_append_left _ (List.mem_append_right _ (List.mem_append_left _ h))))))
theorem pz_X9_bring_X9_bring_r1 : ∀ x ∈ wsX9_bring_r1, x ∈ wsX9_bring := fun _ h => (List.mem_cons_of_mem _ (List.mem_append_left _ (List.mem_append_left _ (List.mem_append_left _ (List.mem_append_left _ h)))))
theorem pz_X9_bring_X30 : ∀ x ∈ wsX30, x ∈ wsX9_bring := fun _ h => (List.mem_cons_of_mem _ (List.mem_append_right _ h))
theorem pz_X9_bring_X40 : ∀ x ∈ wsX40, x ∈ wsX9_bring := fun _ h => (List.mem_cons_of_mem _ (List.mem_append_left _ (List.mem_append_right _ h)))
theorem pz_X9_bring_X9_bring_r3 : ∀ x ∈ wsX9_bring_r3, x ∈ wsX9_bring := fun _ h => (List.mem_cons_of_mem _ (List.mem_append_left _ (List.mem_append_left _ (List.mem_append_left _ (List.mem_append_right _ (List.mem_append_right _ h))))))
theorem pz_X9_bring_X90 : ∀ x ∈ wsX90, x ∈ wsX9_bring := fun _ h => (List.mem_cons_of_mem _ (List.mem_append_left _ (List.mem_append_left _ (List.mem_append_right _ h))))
theorem pz_X9_lookFor_X40 : ∀ x ∈ wsX40, x ∈ wsX9_lookFor := fun _ h => (List.mem_cons_of_mem _ (List.mem_append_left _ (List.mem_append_right _ h)))
theorem pz_X9_lookFor_X90 : ∀ x ∈ wsX90, x ∈ wsX9_lookFor := fun _ h => (List.mem_cons_of_mem _ (List.mem_append_right _ h))
theorem pz_X9_closes_X90 : ∀ x ∈ wsX90, x ∈ wsX9_closes := fun _ h => (List.mem_cons_of_mem _ (List.mem_append_right _ h))
theorem pz_X9_closes_X40 : ∀ x ∈ wsX40, x ∈ wsX9_closes := fun _ h => (List.mem_cons_of_mem _ (List.mem_append_left _ (List.mem_append_right _ h)))
theorem pz_X11_nodes_X11_nodes_r2 : ∀ x ∈ wsX11_nodes_r2, x ∈ wsX11_nodes := fun _ h => (List.mem_cons_of_mem _ (List.mem_append_left _ (List.mem_append_left _ (List.mem_append_left _ (List.mem_append_right _ h)))))
theorem pz_X11_nodes_X11_nodes_r1 : ∀ x ∈ wsX11_nodes_r1, x ∈ wsX11_nodes := fun _ h => (List.mem_cons_of_mem _ (List.mem_append_left _ (List.mem_append_left _ (List.mem_append_left _ (List.mem_append_left _ h)))))
theorem pz_X11_nodes_X110 : ∀ x ∈ wsX110, x ∈ wsX11_nodes := fun _ h => (List.mem_cons_of_mem _ (List.mem_append_left _ (List.mem_append_left _ (List.mem_append_right _ h))))
theorem pz_X11_nodes_X40 : ∀ x ∈ wsX40, x ∈ wsX11_nodes := fun _ h => (List.mem_cons_of_mem _ (List.mem_append_left _ (List.mem_append_right _ h)))
theorem pz_X11_nodes_X60 : ∀ x ∈ wsX60, x ∈ wsX11_nodes := fun _ h => (List.mem_cons_of_mem _ (List.mem_append_right _ h))
theorem pz_X11_join_X40 : ∀ x ∈ wsX40, x ∈ wsX11_join := fun _ h => (List.mem_cons_of_mem _ (List.mem_append_left _ (List.mem_append_right _ h)))
theorem pz_X11_join_X60 : ∀ x ∈ wsX60, x ∈ wsX11_join := fun _ h => (List.mem_cons_of_mem _ (List.mem_append_right _ h))
theorem pz_X11_joined_X40 : ∀ x ∈ wsX40, x ∈ wsX11_joined := fun _ h => (List.mem_cons_of_mem _ (List.mem_append_right _ h))
theorem dX6_length_0 : decode cX6_length 0 = .ok (.aload_n 0, 1) := by decide +kernel
theorem dX6_length_1 : decode cX6_length 1 = .ok (.getfield 39, 3) := by decide +kernel
theorem dX6_length_4 : decode cX6_length 4 = .ok (.ifCond .eq 10, 3) := by decide +kernel
theorem dX6_length_7 : decode cX6_length 7 = .ok (.aload_n 0, 1) := by decide +kernel
theorem dX6_length_8 : decode cX6_length 8 = .ok (.getfield 36, 3) := by decide +kernel
theorem dX6_length_11 : decode cX6_length 11 = .ok (.goto 4, 3) := by decide +kernel
theorem dX6_length_14 : decode cX6_length 14 = .ok (.iconst 0, 1) := by decide +kernel
theorem dX6_length_15 : decode cX6_length 15 = .ok (.ireturn, 1) := by decide +kernel
theorem dX6_drop_0 : decode cX6_drop 0 = .ok (.aload_n 0, 1) := by decide +kernel
theorem dX6_drop_1 : decode cX6_drop 1 = .ok (.iconst 0, 1) := by decide +kernel
theorem dX6_drop_2 : decode cX6_drop 2 = .ok (.putfield 39, 3) := by decide +kernel
theorem dX6_drop_5 : decode cX6_drop 5 = .ok (.return_, 1) := by decide +kernel
set_option maxRecDepth 20000 in
theorem ggX6_drafted_X6_draftSet : GoodIn wsX6_drafted wsX6_draftSet := goodIn_sub (gi_c 5 rfl (gi_a (gi_c 6 rfl (gi_c 7 rfl gi_n)) pz_X6_drafted_X60)) (by decide +kernel)
set_option maxRecDepth 20000 in
theorem gX6_drafted_X6_draftSet : GoodIn wsX6_drafted (wsV RX6 49 RX6 yX6_draftSet wsX6_draftSet) := goodIn_app (goodIn_of _ (by decide +kernel)) ggX6_drafted_X6_draftSet
set_option maxRecDepth 20000 in
theorem ggX6_drafted_X11_in : GoodIn wsX6_drafted wsX11_in := goodIn_sub (gi_c 10 rfl gi_n) (by decide +kernel)
set_option maxRecDepth 20000 in
theorem gX6_drafted_X11_in_n53 : GoodIn wsX6_drafted (wsX11_in) := ggX6_drafted_X11_in
theorem dX6_drafted_0 : decode cX6_drafted 0 = .ok (.aload_n 0, 1) := by decide +kernel
theorem dX6_drafted_1 : decode cX6_drafted 1 = .ok (.invokevirtual 49, 3) := by decide +kernel
theorem dX6_drafted_4 : decode cX6_drafted 4 = .ok (.iload_n 1, 1) := by decide +kernel
theorem dX6_drafted_5 : decode cX6_drafted 5 = .ok (.invokestatic 53, 3) := by decide +kernel
theorem dX6_drafted_8 : decode cX6_drafted 8 = .ok (.ireturn, 1) := by decide +kernel
theorem dX6_draftSet_0 : decode cX6_draftSet 0 = .ok (.iconst 0, 1) := by decide +kernel
theorem dX6_draftSet_1 : decode cX6_draftSet 1 = .ok (.istore_n 1, 1) := by decide +kernel
theorem dX6_draftSet_2 : decode cX6_draftSet 2 = .ok (.iconst 0, 1) := by decide +kernel
theorem dX6_draftSet_3 : decode cX6_draftSet 3 = .ok (.istore_n 2, 1) := by decide +kernel
theorem dX6_draftSet_4 : decode cX6_draftSet 4 = .ok (.iload_n 2, 1) := by decide +kernel
theorem dX6_draftSet_5 : decode cX6_draftSet 5 = .ok (.aload_n 0, 1) := by decide +kernel
theorem dX6_draftSet_6 : decode cX6_draftSet 6 = .ok (.getfield 32, 3) := by decide +kernel
theorem dX6_draftSet_9 : decode cX6_draftSet 9 = .ok (.if_icmp .ge 20, 3) := by decide +kernel
theorem dX6_draftSet_12 : decode cX6_draftSet 12 = .ok (.iload_n 1, 1) := by decide +kernel
theorem dX6_draftSet_13 : decode cX6_draftSet 13 = .ok (.iconst 1, 1) := by decide +kernel
theorem dX6_draftSet_14 : decode cX6_draftSet 14 = .ok (.aload_n 0, 1) := by decide +kernel
theorem dX6_draftSet_15 : decode cX6_draftSet 15 = .ok (.getfield 29, 3) := by decide +kernel
theorem dX6_draftSet_18 : decode cX6_draftSet 18 = .ok (.iload_n 2, 1) := by decide +kernel
theorem dX6_draftSet_19 : decode cX6_draftSet 19 = .ok (.iaload, 1) := by decide +kernel
theorem dX6_draftSet_20 : decode cX6_draftSet 20 = .ok (.ishl, 1) := by decide +kernel
theorem dX6_draftSet_21 : decode cX6_draftSet 21 = .ok (.ior, 1) := by decide +kernel
theorem dX6_draftSet_22 : decode cX6_draftSet 22 = .ok (.istore_n 1, 1) := by decide +kernel
theorem dX6_draftSet_23 : decode cX6_draftSet 23 = .ok (.iinc 2 1, 3) := by decide +kernel
theorem dX6_draftSet_26 : decode cX6_draftSet 26 = .ok (.goto (-22), 3) := by decide +kernel
theorem dX6_draftSet_29 : decode cX6_draftSet 29 = .ok (.iload_n 1, 1) := by decide +kernel
theorem dX6_draftSet_30 : decode cX6_draftSet 30 = .ok (.ireturn, 1) := by decide +kernel
theorem dX6_addToDraft_0 : decode cX6_addToDraft 0 = .ok (.aload_n 0, 1) := by decide +kernel
theorem dX6_addToDraft_1 : decode cX6_addToDraft 1 = .ok (.getfield 32, 3) := by decide +kernel
theorem dX6_addToDraft_4 : decode cX6_addToDraft 4 = .ok (.bipush 12, 2) := by decide +kernel
theorem dX6_addToDraft_6 : decode cX6_addToDraft 6 = .ok (.if_icmp .ge 23, 3) := by decide +kernel
theorem dX6_addToDraft_9 : decode cX6_addToDraft 9 = .ok (.aload_n 0, 1) := by decide +kernel
theorem dX6_addToDraft_10 : decode cX6_addToDraft 10 = .ok (.getfield 29, 3) := by decide +kernel
theorem dX6_addToDraft_13 : decode cX6_addToDraft 13 = .ok (.aload_n 0, 1) := by decide +kernel
theorem dX6_addToDraft_14 : decode cX6_addToDraft 14 = .ok (.getfield 32, 3) := by decide +kernel
theorem dX6_addToDraft_17 : decode cX6_addToDraft 17 = .ok (.iload_n 1, 1) := by decide +kernel
theorem dX6_addToDraft_18 : decode cX6_addToDraft 18 = .ok (.iastore, 1) := by decide +kernel
theorem dX6_addToDraft_19 : decode cX6_addToDraft 19 = .ok (.aload_n 0, 1) := by decide +kernel
theorem dX6_addToDraft_20 : decode cX6_addToDraft 20 = .ok (.dup, 1) := by decide +kernel
theorem dX6_addToDraft_21 : decode cX6_addToDraft 21 = .ok (.getfield 32, 3) := by decide +kernel
theorem dX6_addToDraft_24 : decode cX6_addToDraft 24 = .ok (.iconst 1, 1) := by decide +kernel
theorem dX6_addToDraft_25 : decode cX6_addToDraft 25 = .ok (.iadd, 1) := by decide +kernel
theorem dX6_addToDraft_26 : decode cX6_addToDraft 26 = .ok (.putfield 32, 3) := by decide +kernel
theorem dX6_addToDraft_29 : decode cX6_addToDraft 29 = .ok (.return_, 1) := by decide +kernel
set_option maxRecDepth 20000 in
theorem ggX6_keepDrafted_X11_in : GoodIn wsX6_keepDrafted wsX11_in := goodIn_sub (gi_c 5 rfl gi_n) (by decide +kernel)
set_option maxRecDepth 20000 in
theorem gX6_keepDrafted_X11_in_n53 : GoodIn wsX6_keepDrafted (wsX11_in) := ggX6_keepDrafted_X11_in
theorem dX6_keepDrafted_0 : decode cX6_keepDrafted 0 = .ok (.iconst 0, 1) := by decide +kernel
theorem dX6_keepDrafted_1 : decode cX6_keepDrafted 1 = .ok (.istore_n 2, 1) := by decide +kernel
theorem dX6_keepDrafted_2 : decode cX6_keepDrafted 2 = .ok (.iconst 0, 1) := by decide +kernel
theorem dX6_keepDrafted_3 : decode cX6_keepDrafted 3 = .ok (.istore_n 3, 1) := by decide +kernel
theorem dX6_keepDrafted_4 : decode cX6_keepDrafted 4 = .ok (.iload_n 3, 1) := by decide +kernel
theorem dX6_keepDrafted_5 : decode cX6_keepDrafted 5 = .ok (.aload_n 0, 1) := by decide +kernel
theorem dX6_keepDrafted_6 : decode cX6_keepDrafted 6 = .ok (.getfield 32, 3) := by decide +kernel
theorem dX6_keepDrafted_9 : decode cX6_keepDrafted 9 = .ok (.if_icmp .ge 37, 3) := by decide +kernel
theorem dX6_keepDrafted_12 : decode cX6_keepDrafted 12 = .ok (.iload_n 1, 1) := by decide +kernel
theorem dX6_keepDrafted_13 : decode cX6_keepDrafted 13 = .ok (.aload_n 0, 1) := by decide +kernel
theorem dX6_keepDrafted_14 : decode cX6_keepDrafted 14 = .ok (.getfield 29, 3) := by decide +kernel
theorem dX6_keepDrafted_17 : decode cX6_keepDrafted 17 = .ok (.iload_n 3, 1) := by decide +kernel
theorem dX6_keepDrafted_18 : decode cX6_keepDrafted 18 = .ok (.iaload, 1) := by decide +kernel
theorem dX6_keepDrafted_19 : decode cX6_keepDrafted 19 = .ok (.invokestatic 53, 3) := by decide +kernel
theorem dX6_keepDrafted_22 : decode cX6_keepDrafted 22 = .ok (.ifCond .eq 18, 3) := by decide +kernel
theorem dX6_keepDrafted_25 : decode cX6_keepDrafted 25 = .ok (.aload_n 0, 1) := by decide +kernel
theorem dX6_keepDrafted_26 : decode cX6_keepDrafted 26 = .ok (.getfield 29, 3) := by decide +kernel
theorem dX6_keepDrafted_29 : decode cX6_keepDrafted 29 = .ok (.iload_n 2, 1) := by decide +kernel
theorem dX6_keepDrafted_30 : decode cX6_keepDrafted 30 = .ok (.aload_n 0, 1) := by decide +kernel
theorem dX6_keepDrafted_31 : decode cX6_keepDrafted 31 = .ok (.getfield 29, 3) := by decide +kernel
theorem dX6_keepDrafted_34 : decode cX6_keepDrafted 34 = .ok (.iload_n 3, 1) := by decide +kernel
theorem dX6_keepDrafted_35 : decode cX6_keepDrafted 35 = .ok (.iaload, 1) := by decide +kernel
theorem dX6_keepDrafted_36 : decode cX6_keepDrafted 36 = .ok (.iastore, 1) := by decide +kernel
theorem dX6_keepDrafted_37 : decode cX6_keepDrafted 37 = .ok (.iinc 2 1, 3) := by decide +kernel
theorem dX6_keepDrafted_40 : decode cX6_keepDrafted 40 = .ok (.iinc 3 1, 3) := by decide +kernel
theorem dX6_keepDrafted_43 : decode cX6_keepDrafted 43 = .ok (.goto (-39), 3) := by decide +kernel
theorem dX6_keepDrafted_46 : decode cX6_keepDrafted 46 = .ok (.aload_n 0, 1) := by decide +kernel
theorem dX6_keepDrafted_47 : decode cX6_keepDrafted 47 = .ok (.iload_n 2, 1) := by decide +kernel
theorem dX6_keepDrafted_48 : decode cX6_keepDrafted 48 = .ok (.putfield 32, 3) := by decide +kernel
theorem dX6_keepDrafted_51 : decode cX6_keepDrafted 51 = .ok (.return_, 1) := by decide +kernel
set_option maxRecDepth 20000 in
theorem ggX6_begin_X3_start : GoodIn wsX6_begin wsX3_start := goodIn_sub (gi_c 9 rfl (gi_a (gi_a (gi_c 10 rfl (gi_c 11 rfl (gi_c 12 rfl (gi_c 13 rfl (gi_c 14 rfl (gi_c 15 rfl gi_n)))))) pz_X6_begin_X40) pz_X6_begin_X30)) (by decide +kernel)
set_option maxRecDepth 20000 in
theorem gX6_begin_X3_start_n57 : GoodIn wsX6_begin (wsX3_start) := ggX6_begin_X3_start
theorem dX6_begin_0 : decode cX6_begin 0 = .ok (.aload_n 0, 1) := by decide +kernel
theorem dX6_begin_1 : decode cX6_begin 1 = .ok (.getfield 12, 3) := by decide +kernel
theorem dX6_begin_4 : decode cX6_begin 4 = .ok (.aload_n 1, 1) := by decide +kernel
theorem dX6_begin_5 : decode cX6_begin 5 = .ok (.invokevirtual 57, 3) := by decide +kernel
theorem dX6_begin_8 : decode cX6_begin 8 = .ok (.aload_n 0, 1) := by decide +kernel
theorem dX6_begin_9 : decode cX6_begin 9 = .ok (.iconst 1, 1) := by decide +kernel
theorem dX6_begin_10 : decode cX6_begin 10 = .ok (.putfield 39, 3) := by decide +kernel
theorem dX6_begin_13 : decode cX6_begin 13 = .ok (.aload_n 0, 1) := by decide +kernel
theorem dX6_begin_14 : decode cX6_begin 14 = .ok (.aload_n 1, 1) := by decide +kernel
theorem dX6_begin_15 : decode cX6_begin 15 = .ok (.getfield 61, 3) := by decide +kernel
theorem dX6_begin_18 : decode cX6_begin 18 = .ok (.putfield 36, 3) := by decide +kernel
theorem dX6_begin_21 : decode cX6_begin 21 = .ok (.aload_n 0, 1) := by decide +kernel
theorem dX6_begin_22 : decode cX6_begin 22 = .ok (.iconst 0, 1) := by decide +kernel
theorem dX6_begin_23 : decode cX6_begin 23 = .ok (.putfield 43, 3) := by decide +kernel
theorem dX6_begin_26 : decode cX6_begin 26 = .ok (.aload_n 0, 1) := by decide +kernel
theorem dX6_begin_27 : decode cX6_begin 27 = .ok (.iconst 0, 1) := by decide +kernel
theorem dX6_begin_28 : decode cX6_begin 28 = .ok (.putfield 46, 3) := by decide +kernel
theorem dX6_begin_31 : decode cX6_begin 31 = .ok (.return_, 1) := by decide +kernel
set_option maxRecDepth 20000 in
theorem ggX6_place_X3_lack : GoodIn wsX6_place wsX3_lack := goodIn_sub (gi_t pz_X6_place_X6_place_r1 11 rfl (gi_a (gi_t pz_X6_place_X6_place_r1 12 rfl (gi_t pz_X6_place_X6_place_r1 13 rfl (gi_t pz_X6_place_X6_place_r1 14 rfl (gi_t pz_X6_place_X6_place_r1 15 rfl (gi_t pz_X6_place_X6_place_r1 16 rfl (gi_t pz_X6_place_X6_place_r1 17 rfl (gi_t pz_X6_place_X6_place_r1 18 rfl (gi_t pz_X6_place_X6_place_r1 19 rfl (gi_t pz_X6_place_X6_place_r1 20 rfl (gi_t pz_X6_place_X6_place_r1 21 rfl (gi_t pz_X6_place_X6_place_r1 22 rfl (gi_t pz_X6_place_X6_place_r1 23 rfl (gi_t pz_X6_place_X6_place_r2 0 rfl (gi_t pz_X6_place_X6_place_r2 1 rfl (gi_t pz_X6_place_X6_place_r2 2 rfl (gi_t pz_X6_place_X6_place_r2 3 rfl gi_n)))))))))))))))) pz_X6_place_X30)) (by decide +kernel)
set_option maxRecDepth 20000 in
theorem gX6_place_X3_lack_n64 : GoodIn wsX6_place (wsX3_lack) := ggX6_place_X3_lack
set_option maxRecDepth 20000 in
theorem ggX6_place_X3_width : GoodIn wsX6_place wsX3_width := goodIn_sub (gi_t pz_X6_place_X6_place_r2 6 rfl (gi_a (gi_t pz_X6_place_X6_place_r1 12 rfl (gi_t pz_X6_place_X6_place_r1 19 rfl (gi_t pz_X6_place_X6_place_r1 20 rfl (gi_t pz_X6_place_X6_place_r1 16 rfl (gi_t pz_X6_place_X6_place_r1 21 rfl (gi_t pz_X6_place_X6_place_r1 22 rfl (gi_t pz_X6_place_X6_place_r1 23 rfl (gi_t pz_X6_place_X6_place_r2 0 rfl gi_n)))))))) pz_X6_place_X30)) (by decide +kernel)
set_option maxRecDepth 20000 in
theorem gX6_place_X3_width_n68 : GoodIn wsX6_place (wsX3_width) := ggX6_place_X3_width
set_option maxRecDepth 20000 in
theorem ggX6_place_X3_leave : GoodIn wsX6_place wsX3_leave := goodIn_sub (gi_t pz_X6_place_X6_place_r2 9 rfl (gi_a (gi_t pz_X6_place_X6_place_r1 12 rfl (gi_t pz_X6_place_X6_place_r2 10 rfl (gi_t pz_X6_place_X6_place_r2 11 rfl (gi_t pz_X6_place_X6_place_r2 12 rfl (gi_t pz_X6_place_X6_place_r2 13 rfl (gi_t pz_X6_place_X6_place_r1 13 rfl (gi_t pz_X6_place_X6_place_r1 14 rfl (gi_t pz_X6_place_X6_place_r1 15 rfl (gi_t pz_X6_place_X6_place_r1 16 rfl (gi_t pz_X6_place_X6_place_r1 17 rfl (gi_t pz_X6_place_X6_place_r1 18 rfl (gi_t pz_X6_place_X6_place_r2 1 rfl (gi_t pz_X6_place_X6_place_r2 2 rfl (gi_t pz_X6_place_X6_place_r2 3 rfl gi_n)))))))))))))) pz_X6_place_X30)) (by decide +kernel)
set_option maxRecDepth 20000 in
theorem gX6_place_X3_leave_n75 : GoodIn wsX6_place (wsX3_leave) := ggX6_place_X3_leave
theorem dX6_place_0 : decode cX6_place 0 = .ok (.aload_n 0, 1) := by decide +kernel
theorem dX6_place_1 : decode cX6_place 1 = .ok (.getfield 25, 3) := by decide +kernel
theorem dX6_place_4 : decode cX6_place 4 = .ok (.iload_n 1, 1) := by decide +kernel
theorem dX6_place_5 : decode cX6_place 5 = .ok (.iload_n 2, 1) := by decide +kernel
theorem dX6_place_6 : decode cX6_place 6 = .ok (.iastore, 1) := by decide +kernel
theorem dX6_place_7 : decode cX6_place 7 = .ok (.aload_n 0, 1) := by decide +kernel
theorem dX6_place_8 : decode cX6_place 8 = .ok (.dup, 1) := by decide +kernel
theorem dX6_place_9 : decode cX6_place 9 = .ok (.getfield 43, 3) := by decide +kernel
theorem dX6_place_12 : decode cX6_place 12 = .ok (.aload_n 0, 1) := by decide +kernel
theorem dX6_place_13 : decode cX6_place 13 = .ok (.getfield 12, 3) := by decide +kernel
theorem dX6_place_16 : decode cX6_place 16 = .ok (.iload_n 1, 1) := by decide +kernel
theorem dX6_place_17 : decode cX6_place 17 = .ok (.iload_n 2, 1) := by decide +kernel
theorem dX6_place_18 : decode cX6_place 18 = .ok (.invokevirtual 64, 3) := by decide +kernel
theorem dX6_place_21 : decode cX6_place 21 = .ok (.iadd, 1) := by decide +kernel
theorem dX6_place_22 : decode cX6_place 22 = .ok (.putfield 43, 3) := by decide +kernel
theorem dX6_place_25 : decode cX6_place 25 = .ok (.aload_n 0, 1) := by decide +kernel
theorem dX6_place_26 : decode cX6_place 26 = .ok (.aload_n 0, 1) := by decide +kernel
theorem dX6_place_27 : decode cX6_place 27 = .ok (.getfield 46, 3) := by decide +kernel
theorem dX6_place_30 : decode cX6_place 30 = .ok (.aload_n 0, 1) := by decide +kernel
theorem dX6_place_31 : decode cX6_place 31 = .ok (.getfield 12, 3) := by decide +kernel
theorem dX6_place_34 : decode cX6_place 34 = .ok (.iload_n 1, 1) := by decide +kernel
theorem dX6_place_35 : decode cX6_place 35 = .ok (.iload_n 2, 1) := by decide +kernel
theorem dX6_place_36 : decode cX6_place 36 = .ok (.invokevirtual 68, 3) := by decide +kernel
theorem dX6_place_39 : decode cX6_place 39 = .ok (.invokestatic 70, 3) := by decide +kernel
theorem dX6_place_42 : decode cX6_place 42 = .ok (.putfield 46, 3) := by decide +kernel
theorem dX6_place_45 : decode cX6_place 45 = .ok (.aload_n 0, 1) := by decide +kernel
theorem dX6_place_46 : decode cX6_place 46 = .ok (.getfield 12, 3) := by decide +kernel
theorem dX6_place_49 : decode cX6_place 49 = .ok (.iload_n 1, 1) := by decide +kernel
theorem dX6_place_50 : decode cX6_place 50 = .ok (.iload_n 2, 1) := by decide +kernel
theorem dX6_place_51 : decode cX6_place 51 = .ok (.invokevirtual 75, 3) := by decide +kernel
theorem dX6_place_54 : decode cX6_place 54 = .ok (.return_, 1) := by decide +kernel
set_option maxRecDepth 20000 in
theorem ggX6_followDraft_X6_begin : GoodIn wsX6_followDraft wsX6_begin := goodIn_sub (gi_t pz_X6_followDraft_X6_followDraft_r1 6 rfl (gi_a (gi_a (gi_a (gi_t pz_X6_followDraft_X6_followDraft_r1 7 rfl (gi_t pz_X6_followDraft_X6_followDraft_r1 8 rfl (gi_t pz_X6_followDraft_X6_followDraft_r1 0 rfl (gi_t pz_X6_followDraft_X6_followDraft_r1 9 rfl (gi_t pz_X6_followDraft_X6_followDraft_r1 10 rfl (gi_t pz_X6_followDraft_X6_followDraft_r1 11 rfl (gi_t pz_X6_followDraft_X6_followDraft_r1 12 rfl (gi_t pz_X6_followDraft_X6_followDraft_r1 13 rfl (gi_t pz_X6_followDraft_X6_followDraft_r1 14 rfl (gi_t pz_X6_followDraft_X6_followDraft_r1 15 rfl (gi_t pz_X6_followDraft_X6_followDraft_r1 16 rfl (gi_t pz_X6_followDraft_X6_followDraft_r1 17 rfl (gi_t pz_X6_followDraft_X6_followDraft_r1 18 rfl (gi_t pz_X6_followDraft_X6_followDraft_r1 19 rfl (gi_t pz_X6_followDraft_X6_followDraft_r1 20 rfl gi_n))))))))))))))) pz_X6_followDraft_X60) pz_X6_followDraft_X40) pz_X6_followDraft_X30)) (by decide +kernel)
set_option maxRecDepth 20000 in
theorem gX6_followDraft_X6_begin : GoodIn wsX6_followDraft (wsV RX6 79 RX6 yX6_begin wsX6_begin) := goodIn_app (goodIn_of _ (by decide +kernel)) ggX6_followDraft_X6_begin
set_option maxRecDepth 20000 in
theorem ggX6_followDraft_X6_place : GoodIn wsX6_followDraft wsX6_place := goodIn_sub (gi_t pz_X6_followDraft_X6_followDraft_r2 0 rfl (gi_a (gi_a (gi_a (gi_t pz_X6_followDraft_X6_followDraft_r2 1 rfl (gi_t pz_X6_followDraft_X6_followDraft_r1 9 rfl (gi_t pz_X6_followDraft_X6_followDraft_r1 7 rfl (gi_t pz_X6_followDraft_X6_followDraft_r1 10 rfl (gi_t pz_X6_followDraft_X6_followDraft_r2 2 rfl (gi_t pz_X6_followDraft_X6_followDraft_r2 3 rfl (gi_t pz_X6_followDraft_X6_followDraft_r2 4 rfl (gi_t pz_X6_followDraft_X6_followDraft_r2 5 rfl (gi_t pz_X6_followDraft_X6_followDraft_r2 6 rfl (gi_t pz_X6_followDraft_X6_followDraft_r1 12 rfl (gi_t pz_X6_followDraft_X6_followDraft_r2 7 rfl (gi_t pz_X6_followDraft_X6_followDraft_r2 8 rfl (gi_t pz_X6_followDraft_X6_followDraft_r1 16 rfl (gi_t pz_X6_followDraft_X6_followDraft_r1 15 rfl (gi_t pz_X6_followDraft_X6_followDraft_r2 9 rfl (gi_t pz_X6_followDraft_X6_followDraft_r2 10 rfl (gi_t pz_X6_followDraft_X6_followDraft_r2 11 rfl (gi_t pz_X6_followDraft_X6_followDraft_r2 12 rfl (gi_t pz_X6_followDraft_X6_followDraft_r2 13 rfl (gi_t pz_X6_followDraft_X6_followDraft_r2 14 rfl (gi_t pz_X6_followDraft_X6_followDraft_r2 15 rfl (gi_t pz_X6_followDraft_X6_followDraft_r2 16 rfl (gi_t pz_X6_followDraft_X6_followDraft_r2 17 rfl (gi_t pz_X6_followDraft_X6_followDraft_r2 18 rfl gi_n)))))))))))))))))))))))) (gi_t pz_X6_followDraft_X6_followDraft_r2 19 rfl (gi_t pz_X6_followDraft_X6_followDraft_r2 20 rfl (gi_t pz_X6_followDraft_X6_followDraft_r2 21 rfl (gi_t pz_X6_followDraft_X6_followDraft_r2 22 rfl (gi_t pz_X6_followDraft_X6_followDraft_r2 23 rfl (gi_t pz_X6_followDraft_X6_followDraft_r3 0 rfl (gi_t pz_X6_followDraft_X6_followDraft_r3 1 rfl (gi_t pz_X6_followDraft_X6_followDraft_r3 2 rfl (gi_t pz_X6_followDraft_X6_followDraft_r3 3 rfl (gi_t pz_X6_followDraft_X6_followDraft_r3 4 rfl (gi_t pz_X6_followDraft_X6_followDraft_r1 17 rfl (gi_t pz_X6_followDraft_X6_followDraft_r1 18 rfl (gi_t pz_X6_followDraft_X6_followDraft_r1 19 rfl (gi_t pz_X6_followDraft_X6_followDraft_r1 20 rfl gi_n))))))))))))))) pz_X6_followDraft_X60) pz_X6_followDraft_X30)) (by decide +kernel)
set_option maxRecDepth 20000 in
theorem gX6_followDraft_X6_place : GoodIn wsX6_followDraft (wsV RX6 82 RX6 yX6_place wsX6_place) := goodIn_app (goodIn_of _ (by decide +kernel)) ggX6_followDraft_X6_place
theorem dX6_followDraft_0 : decode cX6_followDraft 0 = .ok (.aload_n 0, 1) := by decide +kernel
theorem dX6_followDraft_1 : decode cX6_followDraft 1 = .ok (.aload_n 1, 1) := by decide +kernel
theorem dX6_followDraft_2 : decode cX6_followDraft 2 = .ok (.invokevirtual 79, 3) := by decide +kernel
theorem dX6_followDraft_5 : decode cX6_followDraft 5 = .ok (.iconst 0, 1) := by decide +kernel
theorem dX6_followDraft_6 : decode cX6_followDraft 6 = .ok (.istore_n 2, 1) := by decide +kernel
theorem dX6_followDraft_7 : decode cX6_followDraft 7 = .ok (.iload_n 2, 1) := by decide +kernel
theorem dX6_followDraft_8 : decode cX6_followDraft 8 = .ok (.aload_n 0, 1) := by decide +kernel
theorem dX6_followDraft_9 : decode cX6_followDraft 9 = .ok (.getfield 36, 3) := by decide +kernel
theorem dX6_followDraft_12 : decode cX6_followDraft 12 = .ok (.if_icmp .ge 20, 3) := by decide +kernel
theorem dX6_followDraft_15 : decode cX6_followDraft 15 = .ok (.aload_n 0, 1) := by decide +kernel
theorem dX6_followDraft_16 : decode cX6_followDraft 16 = .ok (.iload_n 2, 1) := by decide +kernel
theorem dX6_followDraft_17 : decode cX6_followDraft 17 = .ok (.aload_n 0, 1) := by decide +kernel
theorem dX6_followDraft_18 : decode cX6_followDraft 18 = .ok (.getfield 29, 3) := by decide +kernel
theorem dX6_followDraft_21 : decode cX6_followDraft 21 = .ok (.iload_n 2, 1) := by decide +kernel
theorem dX6_followDraft_22 : decode cX6_followDraft 22 = .ok (.iaload, 1) := by decide +kernel
theorem dX6_followDraft_23 : decode cX6_followDraft 23 = .ok (.invokevirtual 82, 3) := by decide +kernel
theorem dX6_followDraft_26 : decode cX6_followDraft 26 = .ok (.iinc 2 1, 3) := by decide +kernel
theorem dX6_followDraft_29 : decode cX6_followDraft 29 = .ok (.goto (-22), 3) := by decide +kernel
theorem dX6_followDraft_32 : decode cX6_followDraft 32 = .ok (.return_, 1) := by decide +kernel
set_option maxRecDepth 20000 in
theorem ggX6_followRule_X6_begin : GoodIn wsX6_followRule wsX6_begin := goodIn_sub (gi_t pz_X6_followRule_X6_followRule_r1 6 rfl (gi_a (gi_a (gi_a (gi_t pz_X6_followRule_X6_followRule_r1 1 rfl (gi_t pz_X6_followRule_X6_followRule_r1 7 rfl (gi_t pz_X6_followRule_X6_followRule_r1 0 rfl (gi_t pz_X6_followRule_X6_followRule_r1 8 rfl (gi_t pz_X6_followRule_X6_followRule_r1 9 rfl (gi_t pz_X6_followRule_X6_followRule_r1 10 rfl (gi_t pz_X6_followRule_X6_followRule_r1 11 rfl (gi_t pz_X6_followRule_X6_followRule_r1 12 rfl (gi_t pz_X6_followRule_X6_followRule_r1 13 rfl (gi_t pz_X6_followRule_X6_followRule_r1 14 rfl (gi_t pz_X6_followRule_X6_followRule_r1 15 rfl (gi_t pz_X6_followRule_X6_followRule_r1 16 rfl (gi_t pz_X6_followRule_X6_followRule_r1 17 rfl (gi_t pz_X6_followRule_X6_followRule_r1 18 rfl (gi_t pz_X6_followRule_X6_followRule_r1 19 rfl gi_n))))))))))))))) pz_X6_followRule_X60) pz_X6_followRule_X40) pz_X6_followRule_X30)) (by decide +kernel)
set_option maxRecDepth 20000 in
theorem gX6_followRule_X6_begin : GoodIn wsX6_followRule (wsV RX6 79 RX6 yX6_begin wsX6_begin) := goodIn_app (goodIn_of _ (by decide +kernel)) ggX6_followRule_X6_begin
set_option maxRecDepth 20000 in
theorem ggX6_followRule_X4_all : GoodIn wsX6_followRule wsX4_all := goodIn_sub (gi_t pz_X6_followRule_X6_followRule_r1 23 rfl (gi_a (gi_t pz_X6_followRule_X6_followRule_r2 0 rfl gi_n) pz_X6_followRule_X40)) (by decide +kernel)
set_option maxRecDepth 20000 in
theorem gX6_followRule_X4_all_n85 : GoodIn wsX6_followRule (wsX4_all) := ggX6_followRule_X4_all
set_option maxRecDepth 20000 in
theorem ggX6_followRule_X3_cheapest : GoodIn wsX6_followRule wsX3_cheapest := goodIn_sub (gi_t pz_X6_followRule_X6_followRule_r2 3 rfl (gi_a (gi_a (gi_t pz_X6_followRule_X6_followRule_r1 14 rfl (gi_t pz_X6_followRule_X6_followRule_r2 4 rfl (gi_t pz_X6_followRule_X6_followRule_r2 5 rfl (gi_t pz_X6_followRule_X6_followRule_r2 6 rfl (gi_t pz_X6_followRule_X6_followRule_r2 7 rfl (gi_t pz_X6_followRule_X6_followRule_r2 8 rfl (gi_t pz_X6_followRule_X6_followRule_r2 9 rfl (gi_t pz_X6_followRule_X6_followRule_r1 11 rfl (gi_t pz_X6_followRule_X6_followRule_r2 10 rfl (gi_t pz_X6_followRule_X6_followRule_r2 11 rfl (gi_t pz_X6_followRule_X6_followRule_r2 12 rfl (gi_t pz_X6_followRule_X6_followRule_r2 13 rfl (gi_t pz_X6_followRule_X6_followRule_r2 14 rfl (gi_t pz_X6_followRule_X6_followRule_r1 15 rfl (gi_t pz_X6_followRule_X6_followRule_r2 15 rfl (gi_t pz_X6_followRule_X6_followRule_r2 16 rfl (gi_t pz_X6_followRule_X6_followRule_r2 17 rfl (gi_t pz_X6_followRule_X6_followRule_r2 18 rfl (gi_t pz_X6_followRule_X6_followRule_r2 19 rfl (gi_t pz_X6_followRule_X6_followRule_r2 20 rfl (gi_t pz_X6_followRule_X6_followRule_r2 21 rfl (gi_t pz_X6_followRule_X6_followRule_r2 22 rfl (gi_t pz_X6_followRule_X6_followRule_r2 23 rfl (gi_t pz_X6_followRule_X6_followRule_r3 0 rfl gi_n)))))))))))))))))))))))) (gi_t pz_X6_followRule_X6_followRule_r3 1 rfl (gi_t pz_X6_followRule_X6_followRule_r3 2 rfl (gi_t pz_X6_followRule_X6_followRule_r3 3 rfl (gi_t pz_X6_followRule_X6_followRule_r3 4 rfl (gi_t pz_X6_followRule_X6_followRule_r3 5 rfl (gi_t pz_X6_followRule_X6_followRule_r3 6 rfl (gi_t pz_X6_followRule_X6_followRule_r3 7 rfl (gi_t pz_X6_followRule_X6_followRule_r3 8 rfl (gi_t pz_X6_followRule_X6_followRule_r3 9 rfl (gi_t pz_X6_followRule_X6_followRule_r3 10 rfl (gi_t pz_X6_followRule_X6_followRule_r3 11 rfl gi_n)))))))))))) pz_X6_followRule_X30)) (by decide +kernel)
set_option maxRecDepth 20000 in
theorem gX6_followRule_X3_cheapest_n88 : GoodIn wsX6_followRule (wsX3_cheapest) := ggX6_followRule_X3_cheapest
set_option maxRecDepth 20000 in
theorem ggX6_followRule_X6_place : GoodIn wsX6_followRule wsX6_place := goodIn_sub (gi_t pz_X6_followRule_X6_followRule_r3 15 rfl (gi_a (gi_a (gi_a (gi_t pz_X6_followRule_X6_followRule_r3 16 rfl (gi_t pz_X6_followRule_X6_followRule_r1 8 rfl (gi_t pz_X6_followRule_X6_followRule_r1 1 rfl (gi_t pz_X6_followRule_X6_followRule_r1 9 rfl (gi_t pz_X6_followRule_X6_followRule_r3 17 rfl (gi_t pz_X6_followRule_X6_followRule_r3 18 rfl (gi_t pz_X6_followRule_X6_followRule_r3 19 rfl (gi_t pz_X6_followRule_X6_followRule_r3 20 rfl (gi_t pz_X6_followRule_X6_followRule_r3 9 rfl (gi_t pz_X6_followRule_X6_followRule_r1 11 rfl (gi_t pz_X6_followRule_X6_followRule_r3 10 rfl (gi_t pz_X6_followRule_X6_followRule_r3 11 rfl (gi_t pz_X6_followRule_X6_followRule_r1 15 rfl (gi_t pz_X6_followRule_X6_followRule_r1 14 rfl (gi_t pz_X6_followRule_X6_followRule_r2 15 rfl (gi_t pz_X6_followRule_X6_followRule_r2 16 rfl (gi_t pz_X6_followRule_X6_followRule_r2 17 rfl (gi_t pz_X6_followRule_X6_followRule_r2 18 rfl (gi_t pz_X6_followRule_X6_followRule_r2 19 rfl (gi_t pz_X6_followRule_X6_followRule_r3 2 rfl (gi_t pz_X6_followRule_X6_followRule_r3 3 rfl (gi_t pz_X6_followRule_X6_followRule_r3 4 rfl (gi_t pz_X6_followRule_X6_followRule_r3 5 rfl (gi_t pz_X6_followRule_X6_followRule_r3 6 rfl gi_n)))))))))))))))))))))))) (gi_t pz_X6_followRule_X6_followRule_r3 7 rfl (gi_t pz_X6_followRule_X6_followRule_r2 20 rfl (gi_t pz_X6_followRule_X6_followRule_r2 5 rfl (gi_t pz_X6_followRule_X6_followRule_r2 21 rfl (gi_t pz_X6_followRule_X6_followRule_r2 23 rfl (gi_t pz_X6_followRule_X6_followRule_r3 0 rfl (gi_t pz_X6_followRule_X6_followRule_r3 1 rfl (gi_t pz_X6_followRule_X6_followRule_r3 21 rfl (gi_t pz_X6_followRule_X6_followRule_r3 22 rfl (gi_t pz_X6_followRule_X6_followRule_r3 23 rfl (gi_t pz_X6_followRule_X6_followRule_r1 16 rfl (gi_t pz_X6_followRule_X6_followRule_r1 17 rfl (gi_t pz_X6_followRule_X6_followRule_r1 18 rfl (gi_t pz_X6_followRule_X6_followRule_r1 19 rfl gi_n))))))))))))))) pz_X6_followRule_X60) pz_X6_followRule_X30)) (by decide +kernel)
set_option maxRecDepth 20000 in
theorem gX6_followRule_X6_place : GoodIn wsX6_followRule (wsV RX6 82 RX6 yX6_place wsX6_place) := goodIn_app (goodIn_of _ (by decide +kernel)) ggX6_followRule_X6_place
theorem dX6_followRule_0 : decode cX6_followRule 0 = .ok (.aload_n 0, 1) := by decide +kernel
theorem dX6_followRule_1 : decode cX6_followRule 1 = .ok (.aload_n 1, 1) := by decide +kernel
theorem dX6_followRule_2 : decode cX6_followRule 2 = .ok (.invokevirtual 79, 3) := by decide +kernel
theorem dX6_followRule_5 : decode cX6_followRule 5 = .ok (.aload_n 1, 1) := by decide +kernel
theorem dX6_followRule_6 : decode cX6_followRule 6 = .ok (.invokevirtual 85, 3) := by decide +kernel
theorem dX6_followRule_9 : decode cX6_followRule 9 = .ok (.istore_n 3, 1) := by decide +kernel
theorem dX6_followRule_10 : decode cX6_followRule 10 = .ok (.iconst 0, 1) := by decide +kernel
theorem dX6_followRule_11 : decode cX6_followRule 11 = .ok (.istore 4, 2) := by decide +kernel
theorem dX6_followRule_13 : decode cX6_followRule 13 = .ok (.iload 4, 2) := by decide +kernel
theorem dX6_followRule_15 : decode cX6_followRule 15 = .ok (.aload_n 0, 1) := by decide +kernel
theorem dX6_followRule_16 : decode cX6_followRule 16 = .ok (.getfield 36, 3) := by decide +kernel
theorem dX6_followRule_19 : decode cX6_followRule 19 = .ok (.if_icmp .ge 39, 3) := by decide +kernel
theorem dX6_followRule_22 : decode cX6_followRule 22 = .ok (.aload_n 0, 1) := by decide +kernel
theorem dX6_followRule_23 : decode cX6_followRule 23 = .ok (.getfield 12, 3) := by decide +kernel
theorem dX6_followRule_26 : decode cX6_followRule 26 = .ok (.iload_n 2, 1) := by decide +kernel
theorem dX6_followRule_27 : decode cX6_followRule 27 = .ok (.iload 4, 2) := by decide +kernel
theorem dX6_followRule_29 : decode cX6_followRule 29 = .ok (.iload_n 3, 1) := by decide +kernel
theorem dX6_followRule_30 : decode cX6_followRule 30 = .ok (.invokevirtual 88, 3) := by decide +kernel
theorem dX6_followRule_33 : decode cX6_followRule 33 = .ok (.istore 5, 2) := by decide +kernel
theorem dX6_followRule_35 : decode cX6_followRule 35 = .ok (.aload_n 0, 1) := by decide +kernel
theorem dX6_followRule_36 : decode cX6_followRule 36 = .ok (.iload 4, 2) := by decide +kernel
theorem dX6_followRule_38 : decode cX6_followRule 38 = .ok (.iload 5, 2) := by decide +kernel
theorem dX6_followRule_40 : decode cX6_followRule 40 = .ok (.invokevirtual 82, 3) := by decide +kernel
theorem dX6_followRule_43 : decode cX6_followRule 43 = .ok (.iload_n 3, 1) := by decide +kernel
theorem dX6_followRule_44 : decode cX6_followRule 44 = .ok (.iconst 1, 1) := by decide +kernel
theorem dX6_followRule_45 : decode cX6_followRule 45 = .ok (.iload 5, 2) := by decide +kernel
theorem dX6_followRule_47 : decode cX6_followRule 47 = .ok (.ishl, 1) := by decide +kernel
theorem dX6_followRule_48 : decode cX6_followRule 48 = .ok (.iconst (-1), 1) := by decide +kernel
theorem dX6_followRule_49 : decode cX6_followRule 49 = .ok (.ixor, 1) := by decide +kernel
theorem dX6_followRule_50 : decode cX6_followRule 50 = .ok (.iand, 1) := by decide +kernel
theorem dX6_followRule_51 : decode cX6_followRule 51 = .ok (.istore_n 3, 1) := by decide +kernel
theorem dX6_followRule_52 : decode cX6_followRule 52 = .ok (.iinc 4 1, 3) := by decide +kernel
theorem dX6_followRule_55 : decode cX6_followRule 55 = .ok (.goto (-42), 3) := by decide +kernel
theorem dX6_followRule_58 : decode cX6_followRule 58 = .ok (.return_, 1) := by decide +kernel
set_option maxRecDepth 20000 in
theorem ggX6_followLeast_X6_begin : GoodIn wsX6_followLeast wsX6_begin := goodIn_sub (gi_t pz_X6_followLeast_X6_followLeast_r1 7 rfl (gi_a (gi_a (gi_a (gi_t pz_X6_followLeast_X6_followLeast_r1 8 rfl (gi_t pz_X6_followLeast_X6_followLeast_r1 9 rfl (gi_t pz_X6_followLeast_X6_followLeast_r1 1 rfl (gi_t pz_X6_followLeast_X6_followLeast_r1 2 rfl (gi_t pz_X6_followLeast_X6_followLeast_r1 10 rfl (gi_t pz_X6_followLeast_X6_followLeast_r1 11 rfl (gi_t pz_X6_followLeast_X6_followLeast_r1 12 rfl (gi_t pz_X6_followLeast_X6_followLeast_r1 13 rfl (gi_t pz_X6_followLeast_X6_followLeast_r1 14 rfl (gi_t pz_X6_followLeast_X6_followLeast_r1 15 rfl (gi_t pz_X6_followLeast_X6_followLeast_r1 16 rfl (gi_t pz_X6_followLeast_X6_followLeast_r1 17 rfl (gi_t pz_X6_followLeast_X6_followLeast_r1 18 rfl (gi_t pz_X6_followLeast_X6_followLeast_r1 19 rfl (gi_t pz_X6_followLeast_X6_followLeast_r1 20 rfl gi_n))))))))))))))) pz_X6_followLeast_X60) pz_X6_followLeast_X40) pz_X6_followLeast_X30)) (by decide +kernel)
set_option maxRecDepth 20000 in
theorem gX6_followLeast_X6_begin : GoodIn wsX6_followLeast (wsV RX6 79 RX6 yX6_begin wsX6_begin) := goodIn_app (goodIn_of _ (by decide +kernel)) ggX6_followLeast_X6_begin
set_option maxRecDepth 20000 in
theorem ggX6_followLeast_X5_begin : GoodIn wsX6_followLeast wsX5_begin := goodIn_sub (gi_t pz_X6_followLeast_X6_followLeast_r2 0 rfl (gi_a (gi_a (gi_a (gi_a (gi_t pz_X6_followLeast_X6_followLeast_r2 1 rfl (gi_t pz_X6_followLeast_X6_followLeast_r2 2 rfl (gi_t pz_X6_followLeast_X6_followLeast_r2 3 rfl (gi_t pz_X6_followLeast_X6_followLeast_r2 4 rfl (gi_t pz_X6_followLeast_X6_followLeast_r2 5 rfl (gi_t pz_X6_followLeast_X6_followLeast_r1 11 rfl (gi_t pz_X6_followLeast_X6_followLeast_r1 12 rfl (gi_t pz_X6_followLeast_X6_followLeast_r1 13 rfl (gi_t pz_X6_followLeast_X6_followLeast_r1 14 rfl (gi_t pz_X6_followLeast_X6_followLeast_r1 15 rfl (gi_t pz_X6_followLeast_X6_followLeast_r1 16 rfl (gi_t pz_X6_followLeast_X6_followLeast_r1 17 rfl (gi_t pz_X6_followLeast_X6_followLeast_r1 18 rfl (gi_t pz_X6_followLeast_X6_followLeast_r1 19 rfl (gi_t pz_X6_followLeast_X6_followLeast_r1 20 rfl (gi_t pz_X6_followLeast_X6_followLeast_r2 6 rfl (gi_t pz_X6_followLeast_X6_followLeast_r2 7 rfl (gi_t pz_X6_followLeast_X6_followLeast_r2 8 rfl (gi_t pz_X6_followLeast_X6_followLeast_r2 9 rfl (gi_t pz_X6_followLeast_X6_followLeast_r2 10 rfl (gi_t pz_X6_followLeast_X6_followLeast_r2 11 rfl (gi_t pz_X6_followLeast_X6_followLeast_r2 12 rfl (gi_t pz_X6_followLeast_X6_followLeast_r2 13 rfl (gi_t pz_X6_followLeast_X6_followLeast_r2 14 rfl gi_n)))))))))))))))))))))))) (gi_a (gi_t pz_X6_followLeast_X6_followLeast_r2 15 rfl (gi_t pz_X6_followLeast_X6_followLeast_r2 16 rfl (gi_t pz_X6_followLeast_X6_followLeast_r2 17 rfl (gi_t pz_X6_followLeast_X6_followLeast_r2 18 rfl (gi_t pz_X6_followLeast_X6_followLeast_r2 19 rfl (gi_t pz_X6_followLeast_X6_followLeast_r1 22 rfl (gi_t pz_X6_followLeast_X6_followLeast_r2 20 rfl (gi_t pz_X6_followLeast_X6_followLeast_r2 21 rfl (gi_t pz_X6_followLeast_X6_followLeast_r2 22 rfl (gi_t pz_X6_followLeast_X6_followLeast_r2 23 rfl (gi_t pz_X6_followLeast_X6_followLeast_r3 0 rfl (gi_t pz_X6_followLeast_X6_followLeast_r3 1 rfl (gi_t pz_X6_followLeast_X6_followLeast_r3 2 rfl (gi_t pz_X6_followLeast_X6_followLeast_r3 3 rfl (gi_t pz_X6_followLeast_X6_followLeast_r3 4 rfl (gi_t pz_X6_followLeast_X6_followLeast_r3 5 rfl (gi_t pz_X6_followLeast_X6_followLeast_r3 6 rfl (gi_t pz_X6_followLeast_X6_followLeast_r3 7 rfl (gi_t pz_X6_followLeast_X6_followLeast_r3 8 rfl (gi_t pz_X6_followLeast_X6_followLeast_r3 9 rfl (gi_t pz_X6_followLeast_X6_followLeast_r3 10 rfl (gi_t pz_X6_followLeast_X6_followLeast_r3 11 rfl (gi_t pz_X6_followLeast_X6_followLeast_r3 12 rfl (gi_t pz_X6_followLeast_X6_followLeast_r3 13 rfl gi_n)))))))))))))))))))))))) (gi_a (gi_t pz_X6_followLeast_X6_followLeast_r3 14 rfl (gi_t pz_X6_followLeast_X6_followLeast_r3 15 rfl (gi_t pz_X6_followLeast_X6_followLeast_r3 16 rfl (gi_t pz_X6_followLeast_X6_followLeast_r3 17 rfl (gi_t pz_X6_followLeast_X6_followLeast_r3 18 rfl (gi_t pz_X6_followLeast_X6_followLeast_r3 19 rfl (gi_t pz_X6_followLeast_X6_followLeast_r3 20 rfl (gi_t pz_X6_followLeast_X6_followLeast_r3 21 rfl (gi_t pz_X6_followLeast_X6_followLeast_r3 22 rfl (gi_t pz_X6_followLeast_X6_followLeast_r3 23 rfl (gi_t pz_X6_followLeast_X6_followLeast_r4 0 rfl (gi_t pz_X6_followLeast_X6_followLeast_r4 1 rfl (gi_t pz_X6_followLeast_X6_followLeast_r4 2 rfl (gi_t pz_X6_followLeast_X6_followLeast_r4 3 rfl (gi_t pz_X6_followLeast_X6_followLeast_r4 4 rfl (gi_t pz_X6_followLeast_X6_followLeast_r4 5 rfl (gi_t pz_X6_followLeast_X6_followLeast_r4 6 rfl (gi_t pz_X6_followLeast_X6_followLeast_r4 7 rfl (gi_t pz_X6_followLeast_X6_followLeast_r4 8 rfl (gi_t pz_X6_followLeast_X6_followLeast_r4 9 rfl (gi_t pz_X6_followLeast_X6_followLeast_r4 10 rfl (gi_t pz_X6_followLeast_X6_followLeast_r4 11 rfl (gi_t pz_X6_followLeast_X6_followLeast_r4 12 rfl (gi_t pz_X6_followLeast_X6_followLeast_r4 13 rfl gi_n)))))))))))))))))))))))) (gi_t pz_X6_followLeast_X6_followLeast_r4 14 rfl (gi_t pz_X6_followLeast_X6_followLeast_r4 15 rfl (gi_t pz_X6_followLeast_X6_followLeast_r4 16 rfl (gi_t pz_X6_followLeast_X6_followLeast_r4 17 rfl (gi_t pz_X6_followLeast_X6_followLeast_r4 18 rfl (gi_t pz_X6_followLeast_X6_followLeast_r4 19 rfl (gi_t pz_X6_followLeast_X6_followLeast_r4 20 rfl (gi_t pz_X6_followLeast_X6_followLeast_r4 21 rfl (gi_t pz_X6_followLeast_X6_followLeast_r4 22 rfl (gi_t pz_X6_followLeast_X6_followLeast_r4 23 rfl (gi_t pz_X6_followLeast_X6_followLeast_r5 0 rfl (gi_t pz_X6_followLeast_X6_followLeast_r5 1 rfl (gi_t pz_X6_followLeast_X6_followLeast_r5 2 rfl (gi_t pz_X6_followLeast_X6_followLeast_r5 3 rfl (gi_t pz_X6_followLeast_X6_followLeast_r5 4 rfl (gi_t pz_X6_followLeast_X6_followLeast_r5 5 rfl (gi_t pz_X6_followLeast_X6_followLeast_r5 6 rfl (gi_t pz_X6_followLeast_X6_followLeast_r5 7 rfl (gi_t pz_X6_followLeast_X6_followLeast_r5 8 rfl (gi_t pz_X6_followLeast_X6_followLeast_r5 9 rfl (gi_t pz_X6_followLeast_X6_followLeast_r5 10 rfl (gi_t pz_X6_followLeast_X6_followLeast_r5 11 rfl (gi_t pz_X6_followLeast_X6_followLeast_r5 12 rfl gi_n)))))))))))))))))))))))))) pz_X6_followLeast_X50) pz_X6_followLeast_X40) pz_X6_followLeast_X30)) (by decide +kernel)
set_option maxRecDepth 20000 in
theorem gX6_followLeast_X5_begin_n92 : GoodIn wsX6_followLeast (wsX5_begin) := ggX6_followLeast_X5_begin
set_option maxRecDepth 20000 in
theorem ggX6_followLeast_X5_letFirstGo : GoodIn wsX6_followLeast wsX5_letFirstGo := goodIn_sub (gi_t pz_X6_followLeast_X6_followLeast_r5 15 rfl (gi_a (gi_a (gi_a (gi_t pz_X6_followLeast_X6_followLeast_r2 4 rfl (gi_t pz_X6_followLeast_X6_followLeast_r2 1 rfl (gi_t pz_X6_followLeast_X6_followLeast_r2 2 rfl (gi_t pz_X6_followLeast_X6_followLeast_r3 6 rfl (gi_t pz_X6_followLeast_X6_followLeast_r3 7 rfl (gi_t pz_X6_followLeast_X6_followLeast_r3 8 rfl (gi_t pz_X6_followLeast_X6_followLeast_r3 9 rfl (gi_t pz_X6_followLeast_X6_followLeast_r1 12 rfl (gi_t pz_X6_followLeast_X6_followLeast_r3 10 rfl (gi_t pz_X6_followLeast_X6_followLeast_r3 11 rfl (gi_t pz_X6_followLeast_X6_followLeast_r3 12 rfl (gi_t pz_X6_followLeast_X6_followLeast_r3 13 rfl (gi_t pz_X6_followLeast_X6_followLeast_r3 14 rfl (gi_t pz_X6_followLeast_X6_followLeast_r3 15 rfl (gi_t pz_X6_followLeast_X6_followLeast_r1 16 rfl (gi_t pz_X6_followLeast_X6_followLeast_r1 15 rfl (gi_t pz_X6_followLeast_X6_followLeast_r3 16 rfl (gi_t pz_X6_followLeast_X6_followLeast_r3 17 rfl (gi_t pz_X6_followLeast_X6_followLeast_r3 18 rfl (gi_t pz_X6_followLeast_X6_followLeast_r3 19 rfl (gi_t pz_X6_followLeast_X6_followLeast_r3 20 rfl (gi_t pz_X6_followLeast_X6_followLeast_r3 21 rfl (gi_t pz_X6_followLeast_X6_followLeast_r3 22 rfl (gi_t pz_X6_followLeast_X6_followLeast_r3 23 rfl gi_n)))))))))))))))))))))))) (gi_a (gi_t pz_X6_followLeast_X6_followLeast_r4 0 rfl (gi_t pz_X6_followLeast_X6_followLeast_r4 1 rfl (gi_t pz_X6_followLeast_X6_followLeast_r4 2 rfl (gi_t pz_X6_followLeast_X6_followLeast_r4 3 rfl (gi_t pz_X6_followLeast_X6_followLeast_r4 4 rfl (gi_t pz_X6_followLeast_X6_followLeast_r4 5 rfl (gi_t pz_X6_followLeast_X6_followLeast_r4 6 rfl (gi_t pz_X6_followLeast_X6_followLeast_r4 7 rfl (gi_t pz_X6_followLeast_X6_followLeast_r4 8 rfl (gi_t pz_X6_followLeast_X6_followLeast_r4 9 rfl (gi_t pz_X6_followLeast_X6_followLeast_r4 10 rfl (gi_t pz_X6_followLeast_X6_followLeast_r4 11 rfl (gi_t pz_X6_followLeast_X6_followLeast_r4 12 rfl (gi_t pz_X6_followLeast_X6_followLeast_r5 3 rfl (gi_t pz_X6_followLeast_X6_followLeast_r5 4 rfl (gi_t pz_X6_followLeast_X6_followLeast_r5 5 rfl (gi_t pz_X6_followLeast_X6_followLeast_r1 17 rfl (gi_t pz_X6_followLeast_X6_followLeast_r1 18 rfl (gi_t pz_X6_followLeast_X6_followLeast_r1 19 rfl (gi_t pz_X6_followLeast_X6_followLeast_r1 20 rfl (gi_t pz_X6_followLeast_X6_followLeast_r2 18 rfl (gi_t pz_X6_followLeast_X6_followLeast_r2 19 rfl (gi_t pz_X6_followLeast_X6_followLeast_r1 22 rfl (gi_t pz_X6_followLeast_X6_followLeast_r2 20 rfl gi_n)))))))))))))))))))))))) (gi_a (gi_t pz_X6_followLeast_X6_followLeast_r2 5 rfl (gi_t pz_X6_followLeast_X6_followLeast_r2 3 rfl (gi_t pz_X6_followLeast_X6_followLeast_r2 21 rfl (gi_t pz_X6_followLeast_X6_followLeast_r2 22 rfl (gi_t pz_X6_followLeast_X6_followLeast_r2 23 rfl (gi_t pz_X6_followLeast_X6_followLeast_r3 0 rfl (gi_t pz_X6_followLeast_X6_followLeast_r3 1 rfl (gi_t pz_X6_followLeast_X6_followLeast_r3 2 rfl (gi_t pz_X6_followLeast_X6_followLeast_r3 3 rfl (gi_t pz_X6_followLeast_X6_followLeast_r3 4 rfl (gi_t pz_X6_followLeast_X6_followLeast_r3 5 rfl (gi_t pz_X6_followLeast_X6_followLeast_r4 13 rfl (gi_t pz_X6_followLeast_X6_followLeast_r4 14 rfl (gi_t pz_X6_followLeast_X6_followLeast_r4 15 rfl (gi_t pz_X6_followLeast_X6_followLeast_r4 16 rfl (gi_t pz_X6_followLeast_X6_followLeast_r4 17 rfl (gi_t pz_X6_followLeast_X6_followLeast_r4 18 rfl (gi_t pz_X6_followLeast_X6_followLeast_r4 19 rfl (gi_t pz_X6_followLeast_X6_followLeast_r4 20 rfl (gi_t pz_X6_followLeast_X6_followLeast_r4 21 rfl (gi_t pz_X6_followLeast_X6_followLeast_r4 22 rfl (gi_t pz_X6_followLeast_X6_followLeast_r4 23 rfl (gi_t pz_X6_followLeast_X6_followLeast_r5 0 rfl (gi_t pz_X6_followLeast_X6_followLeast_r5 1 rfl gi_n)))))))))))))))))))))))) (gi_t pz_X6_followLeast_X6_followLeast_r5 2 rfl (gi_t pz_X6_followLeast_X6_followLeast_r5 6 rfl (gi_t pz_X6_followLeast_X6_followLeast_r5 7 rfl (gi_t pz_X6_followLeast_X6_followLeast_r5 8 rfl (gi_t pz_X6_followLeast_X6_followLeast_r5 9 rfl (gi_t pz_X6_followLeast_X6_followLeast_r5 10 rfl (gi_t pz_X6_followLeast_X6_followLeast_r5 11 rfl (gi_t pz_X6_followLeast_X6_followLeast_r5 12 rfl gi_n))))))))))) pz_X6_followLeast_X50) pz_X6_followLeast_X30)) (by decide +kernel)
set_option maxRecDepth 20000 in
theorem gX6_followLeast_X5_letFirstGo_n95 : GoodIn wsX6_followLeast (wsX5_letFirstGo) := ggX6_followLeast_X5_letFirstGo
set_option maxRecDepth 20000 in
theorem ggX6_followLeast_X6_place : GoodIn wsX6_followLeast wsX6_place := goodIn_sub (gi_t pz_X6_followLeast_X6_followLeast_r5 19 rfl (gi_a (gi_a (gi_a (gi_t pz_X6_followLeast_X6_followLeast_r5 20 rfl (gi_t pz_X6_followLeast_X6_followLeast_r1 2 rfl (gi_t pz_X6_followLeast_X6_followLeast_r1 8 rfl (gi_t pz_X6_followLeast_X6_followLeast_r1 10 rfl (gi_t pz_X6_followLeast_X6_followLeast_r5 21 rfl (gi_t pz_X6_followLeast_X6_followLeast_r5 11 rfl (gi_t pz_X6_followLeast_X6_followLeast_r3 0 rfl (gi_t pz_X6_followLeast_X6_followLeast_r5 12 rfl (gi_t pz_X6_followLeast_X6_followLeast_r4 10 rfl (gi_t pz_X6_followLeast_X6_followLeast_r1 12 rfl (gi_t pz_X6_followLeast_X6_followLeast_r4 11 rfl (gi_t pz_X6_followLeast_X6_followLeast_r4 12 rfl (gi_t pz_X6_followLeast_X6_followLeast_r1 16 rfl (gi_t pz_X6_followLeast_X6_followLeast_r1 15 rfl (gi_t pz_X6_followLeast_X6_followLeast_r3 16 rfl (gi_t pz_X6_followLeast_X6_followLeast_r3 17 rfl (gi_t pz_X6_followLeast_X6_followLeast_r3 18 rfl (gi_t pz_X6_followLeast_X6_followLeast_r3 19 rfl (gi_t pz_X6_followLeast_X6_followLeast_r3 20 rfl (gi_t pz_X6_followLeast_X6_followLeast_r4 3 rfl (gi_t pz_X6_followLeast_X6_followLeast_r4 4 rfl (gi_t pz_X6_followLeast_X6_followLeast_r4 5 rfl (gi_t pz_X6_followLeast_X6_followLeast_r4 6 rfl (gi_t pz_X6_followLeast_X6_followLeast_r4 7 rfl gi_n)))))))))))))))))))))))) (gi_t pz_X6_followLeast_X6_followLeast_r4 8 rfl (gi_t pz_X6_followLeast_X6_followLeast_r3 21 rfl (gi_t pz_X6_followLeast_X6_followLeast_r3 7 rfl (gi_t pz_X6_followLeast_X6_followLeast_r3 22 rfl (gi_t pz_X6_followLeast_X6_followLeast_r4 0 rfl (gi_t pz_X6_followLeast_X6_followLeast_r4 1 rfl (gi_t pz_X6_followLeast_X6_followLeast_r4 2 rfl (gi_t pz_X6_followLeast_X6_followLeast_r5 3 rfl (gi_t pz_X6_followLeast_X6_followLeast_r5 4 rfl (gi_t pz_X6_followLeast_X6_followLeast_r5 5 rfl (gi_t pz_X6_followLeast_X6_followLeast_r1 17 rfl (gi_t pz_X6_followLeast_X6_followLeast_r1 18 rfl (gi_t pz_X6_followLeast_X6_followLeast_r1 19 rfl (gi_t pz_X6_followLeast_X6_followLeast_r1 20 rfl gi_n))))))))))))))) pz_X6_followLeast_X60) pz_X6_followLeast_X30)) (by decide +kernel)
set_option maxRecDepth 20000 in
theorem gX6_followLeast_X6_place : GoodIn wsX6_followLeast (wsV RX6 82 RX6 yX6_place wsX6_place) := goodIn_app (goodIn_of _ (by decide +kernel)) ggX6_followLeast_X6_place
theorem dX6_followLeast_0 : decode cX6_followLeast 0 = .ok (.aload_n 0, 1) := by decide +kernel
theorem dX6_followLeast_1 : decode cX6_followLeast 1 = .ok (.aload_n 1, 1) := by decide +kernel
theorem dX6_followLeast_2 : decode cX6_followLeast 2 = .ok (.invokevirtual 79, 3) := by decide +kernel
theorem dX6_followLeast_5 : decode cX6_followLeast 5 = .ok (.aload_n 0, 1) := by decide +kernel
theorem dX6_followLeast_6 : decode cX6_followLeast 6 = .ok (.getfield 21, 3) := by decide +kernel
theorem dX6_followLeast_9 : decode cX6_followLeast 9 = .ok (.aload_n 1, 1) := by decide +kernel
theorem dX6_followLeast_10 : decode cX6_followLeast 10 = .ok (.iload_n 2, 1) := by decide +kernel
theorem dX6_followLeast_11 : decode cX6_followLeast 11 = .ok (.invokevirtual 92, 3) := by decide +kernel
theorem dX6_followLeast_14 : decode cX6_followLeast 14 = .ok (.istore_n 3, 1) := by decide +kernel
theorem dX6_followLeast_15 : decode cX6_followLeast 15 = .ok (.iconst 0, 1) := by decide +kernel
theorem dX6_followLeast_16 : decode cX6_followLeast 16 = .ok (.istore 4, 2) := by decide +kernel
theorem dX6_followLeast_18 : decode cX6_followLeast 18 = .ok (.iconst 0, 1) := by decide +kernel
theorem dX6_followLeast_19 : decode cX6_followLeast 19 = .ok (.istore 5, 2) := by decide +kernel
theorem dX6_followLeast_21 : decode cX6_followLeast 21 = .ok (.iload 5, 2) := by decide +kernel
theorem dX6_followLeast_23 : decode cX6_followLeast 23 = .ok (.aload_n 0, 1) := by decide +kernel
theorem dX6_followLeast_24 : decode cX6_followLeast 24 = .ok (.getfield 36, 3) := by decide +kernel
theorem dX6_followLeast_27 : decode cX6_followLeast 27 = .ok (.if_icmp .ge 57, 3) := by decide +kernel
theorem dX6_followLeast_30 : decode cX6_followLeast 30 = .ok (.iload_n 2, 1) := by decide +kernel
theorem dX6_followLeast_31 : decode cX6_followLeast 31 = .ok (.ifCond .ne 12, 3) := by decide +kernel
theorem dX6_followLeast_34 : decode cX6_followLeast 34 = .ok (.iload_n 3, 1) := by decide +kernel
theorem dX6_followLeast_35 : decode cX6_followLeast 35 = .ok (.aload_n 0, 1) := by decide +kernel
theorem dX6_followLeast_36 : decode cX6_followLeast 36 = .ok (.getfield 43, 3) := by decide +kernel
theorem dX6_followLeast_39 : decode cX6_followLeast 39 = .ok (.isub, 1) := by decide +kernel
theorem dX6_followLeast_40 : decode cX6_followLeast 40 = .ok (.goto 4, 3) := by decide +kernel
theorem dX6_followLeast_43 : decode cX6_followLeast 43 = .ok (.iload_n 3, 1) := by decide +kernel
theorem dX6_followLeast_44 : decode cX6_followLeast 44 = .ok (.istore 6, 2) := by decide +kernel
theorem dX6_followLeast_46 : decode cX6_followLeast 46 = .ok (.aload_n 0, 1) := by decide +kernel
theorem dX6_followLeast_47 : decode cX6_followLeast 47 = .ok (.getfield 21, 3) := by decide +kernel
theorem dX6_followLeast_50 : decode cX6_followLeast 50 = .ok (.iload 4, 2) := by decide +kernel
theorem dX6_followLeast_52 : decode cX6_followLeast 52 = .ok (.iload 5, 2) := by decide +kernel
theorem dX6_followLeast_54 : decode cX6_followLeast 54 = .ok (.iload 6, 2) := by decide +kernel
theorem dX6_followLeast_56 : decode cX6_followLeast 56 = .ok (.invokevirtual 95, 3) := by decide +kernel
theorem dX6_followLeast_59 : decode cX6_followLeast 59 = .ok (.istore 7, 2) := by decide +kernel
theorem dX6_followLeast_61 : decode cX6_followLeast 61 = .ok (.aload_n 0, 1) := by decide +kernel
theorem dX6_followLeast_62 : decode cX6_followLeast 62 = .ok (.iload 5, 2) := by decide +kernel
theorem dX6_followLeast_64 : decode cX6_followLeast 64 = .ok (.iload 7, 2) := by decide +kernel
theorem dX6_followLeast_66 : decode cX6_followLeast 66 = .ok (.invokevirtual 82, 3) := by decide +kernel
theorem dX6_followLeast_69 : decode cX6_followLeast 69 = .ok (.iload 4, 2) := by decide +kernel
theorem dX6_followLeast_71 : decode cX6_followLeast 71 = .ok (.iconst 1, 1) := by decide +kernel
theorem dX6_followLeast_72 : decode cX6_followLeast 72 = .ok (.iload 7, 2) := by decide +kernel
theorem dX6_followLeast_74 : decode cX6_followLeast 74 = .ok (.ishl, 1) := by decide +kernel
theorem dX6_followLeast_75 : decode cX6_followLeast 75 = .ok (.ior, 1) := by decide +kernel
theorem dX6_followLeast_76 : decode cX6_followLeast 76 = .ok (.istore 4, 2) := by decide +kernel
theorem dX6_followLeast_78 : decode cX6_followLeast 78 = .ok (.iinc 5 1, 3) := by decide +kernel
theorem dX6_followLeast_81 : decode cX6_followLeast 81 = .ok (.goto (-60), 3) := by decide +kernel
theorem dX6_followLeast_84 : decode cX6_followLeast 84 = .ok (.return_, 1) := by decide +kernel
set_option maxRecDepth 20000 in
theorem ggX6_fillIn_X3_start : GoodIn wsX6_fillIn wsX3_start := goodIn_sub (gi_t pz_X6_fillIn_X6_fillIn_r1 6 rfl (gi_a (gi_a (gi_t pz_X6_fillIn_X6_fillIn_r1 7 rfl (gi_t pz_X6_fillIn_X6_fillIn_r1 8 rfl (gi_t pz_X6_fillIn_X6_fillIn_r1 9 rfl (gi_t pz_X6_fillIn_X6_fillIn_r1 10 rfl (gi_t pz_X6_fillIn_X6_fillIn_r1 11 rfl (gi_t pz_X6_fillIn_X6_fillIn_r1 12 rfl gi_n)))))) pz_X6_fillIn_X40) pz_X6_fillIn_X30)) (by decide +kernel)
set_option maxRecDepth 20000 in
theorem gX6_fillIn_X3_start_n57 : GoodIn wsX6_fillIn (wsX3_start) := ggX6_fillIn_X3_start
set_option maxRecDepth 20000 in
theorem ggX6_fillIn_X4_joinAll : GoodIn wsX6_fillIn wsX4_joinAll := goodIn_sub (gi_t pz_X6_fillIn_X6_fillIn_r1 16 rfl (gi_a (gi_t pz_X6_fillIn_X6_fillIn_r1 17 rfl (gi_t pz_X6_fillIn_X6_fillIn_r1 18 rfl (gi_t pz_X6_fillIn_X6_fillIn_r1 19 rfl (gi_t pz_X6_fillIn_X6_fillIn_r1 20 rfl (gi_t pz_X6_fillIn_X6_fillIn_r1 21 rfl (gi_t pz_X6_fillIn_X6_fillIn_r1 22 rfl gi_n)))))) pz_X6_fillIn_X40)) (by decide +kernel)
set_option maxRecDepth 20000 in
theorem gX6_fillIn_X4_joinAll_n102 : GoodIn wsX6_fillIn (wsX4_joinAll) := ggX6_fillIn_X4_joinAll
set_option maxRecDepth 20000 in
theorem ggX6_fillIn_X3_leave : GoodIn wsX6_fillIn wsX3_leave := goodIn_sub (gi_t pz_X6_fillIn_X6_fillIn_r2 1 rfl (gi_a (gi_t pz_X6_fillIn_X6_fillIn_r1 8 rfl (gi_t pz_X6_fillIn_X6_fillIn_r1 9 rfl (gi_t pz_X6_fillIn_X6_fillIn_r1 10 rfl (gi_t pz_X6_fillIn_X6_fillIn_r1 11 rfl (gi_t pz_X6_fillIn_X6_fillIn_r1 12 rfl (gi_t pz_X6_fillIn_X6_fillIn_r1 7 rfl (gi_t pz_X6_fillIn_X6_fillIn_r2 2 rfl (gi_t pz_X6_fillIn_X6_fillIn_r2 3 rfl (gi_t pz_X6_fillIn_X6_fillIn_r2 4 rfl (gi_t pz_X6_fillIn_X6_fillIn_r2 5 rfl (gi_t pz_X6_fillIn_X6_fillIn_r2 6 rfl (gi_t pz_X6_fillIn_X6_fillIn_r2 7 rfl (gi_t pz_X6_fillIn_X6_fillIn_r1 21 rfl (gi_t pz_X6_fillIn_X6_fillIn_r2 8 rfl gi_n)))))))))))))) pz_X6_fillIn_X30)) (by decide +kernel)
set_option maxRecDepth 20000 in
theorem gX6_fillIn_X3_leave_n75 : GoodIn wsX6_fillIn (wsX3_leave) := ggX6_fillIn_X3_leave
theorem dX6_fillIn_0 : decode cX6_fillIn 0 = .ok (.aload_n 0, 1) := by decide +kernel
theorem dX6_fillIn_1 : decode cX6_fillIn 1 = .ok (.getfield 12, 3) := by decide +kernel
theorem dX6_fillIn_4 : decode cX6_fillIn 4 = .ok (.aload_n 1, 1) := by decide +kernel
theorem dX6_fillIn_5 : decode cX6_fillIn 5 = .ok (.invokevirtual 57, 3) := by decide +kernel
theorem dX6_fillIn_8 : decode cX6_fillIn 8 = .ok (.iconst 0, 1) := by decide +kernel
theorem dX6_fillIn_9 : decode cX6_fillIn 9 = .ok (.istore_n 2, 1) := by decide +kernel
theorem dX6_fillIn_10 : decode cX6_fillIn 10 = .ok (.iload_n 2, 1) := by decide +kernel
theorem dX6_fillIn_11 : decode cX6_fillIn 11 = .ok (.aload_n 0, 1) := by decide +kernel
theorem dX6_fillIn_12 : decode cX6_fillIn 12 = .ok (.getfield 36, 3) := by decide +kernel
theorem dX6_fillIn_15 : decode cX6_fillIn 15 = .ok (.if_icmp .ge 43, 3) := by decide +kernel
theorem dX6_fillIn_18 : decode cX6_fillIn 18 = .ok (.aload_n 1, 1) := by decide +kernel
theorem dX6_fillIn_19 : decode cX6_fillIn 19 = .ok (.aload_n 0, 1) := by decide +kernel
theorem dX6_fillIn_20 : decode cX6_fillIn 20 = .ok (.getfield 12, 3) := by decide +kernel
theorem dX6_fillIn_23 : decode cX6_fillIn 23 = .ok (.getfield 98, 3) := by decide +kernel
theorem dX6_fillIn_26 : decode cX6_fillIn 26 = .ok (.iload_n 2, 1) := by decide +kernel
theorem dX6_fillIn_27 : decode cX6_fillIn 27 = .ok (.aaload, 1) := by decide +kernel
theorem dX6_fillIn_28 : decode cX6_fillIn 28 = .ok (.aload_n 0, 1) := by decide +kernel
theorem dX6_fillIn_29 : decode cX6_fillIn 29 = .ok (.getfield 25, 3) := by decide +kernel
theorem dX6_fillIn_32 : decode cX6_fillIn 32 = .ok (.iload_n 2, 1) := by decide +kernel
theorem dX6_fillIn_33 : decode cX6_fillIn 33 = .ok (.iaload, 1) := by decide +kernel
theorem dX6_fillIn_34 : decode cX6_fillIn 34 = .ok (.iaload, 1) := by decide +kernel
theorem dX6_fillIn_35 : decode cX6_fillIn 35 = .ok (.invokevirtual 102, 3) := by decide +kernel
theorem dX6_fillIn_38 : decode cX6_fillIn 38 = .ok (.aload_n 0, 1) := by decide +kernel
theorem dX6_fillIn_39 : decode cX6_fillIn 39 = .ok (.getfield 12, 3) := by decide +kernel
theorem dX6_fillIn_42 : decode cX6_fillIn 42 = .ok (.iload_n 2, 1) := by decide +kernel
theorem dX6_fillIn_43 : decode cX6_fillIn 43 = .ok (.aload_n 0, 1) := by decide +kernel
theorem dX6_fillIn_44 : decode cX6_fillIn 44 = .ok (.getfield 25, 3) := by decide +kernel
theorem dX6_fillIn_47 : decode cX6_fillIn 47 = .ok (.iload_n 2, 1) := by decide +kernel
theorem dX6_fillIn_48 : decode cX6_fillIn 48 = .ok (.iaload, 1) := by decide +kernel
theorem dX6_fillIn_49 : decode cX6_fillIn 49 = .ok (.invokevirtual 75, 3) := by decide +kernel
theorem dX6_fillIn_52 : decode cX6_fillIn 52 = .ok (.iinc 2 1, 3) := by decide +kernel
theorem dX6_fillIn_55 : decode cX6_fillIn 55 = .ok (.goto (-45), 3) := by decide +kernel
theorem dX6_fillIn_58 : decode cX6_fillIn 58 = .ok (.return_, 1) := by decide +kernel
set_option maxRecDepth 20000 in
theorem ggX7_bring_J7_fill_53178 : GoodIn wsX7_bring wsJ7_fill_53178 := goodIn_sub (gi_c 7 rfl gi_n) (by decide +kernel)
set_option maxRecDepth 20000 in
theorem gX7_bring_J7_fill_53178 : GoodIn wsX7_bring (va_wsS RX7 33 yJ7_fill_53178 wsJ7_fill_53178) := goodIn_app (goodIn_of _ (by decide +kernel)) ggX7_bring_J7_fill_53178
set_option maxRecDepth 20000 in
theorem ggX7_bring_X7_paints : GoodIn wsX7_bring wsX7_paints := goodIn_sub (gi_c 11 rfl (gi_a (gi_a (gi_c 3 rfl (gi_c 2 rfl (gi_c 12 rfl (gi_c 13 rfl (gi_c 14 rfl (gi_c 15 rfl (gi_c 16 rfl (gi_c 8 rfl (gi_c 9 rfl (gi_c 10 rfl gi_n)))))))))) pz_X7_bring_X40) pz_X7_bring_X70)) (by decide +kernel)
set_option maxRecDepth 20000 in
theorem gX7_bring_X7_paints : GoodIn wsX7_bring (va_wsS RX7 39 yX7_paints wsX7_paints) := goodIn_app (goodIn_of _ (by decide +kernel)) ggX7_bring_X7_paints
theorem dX7_bring_0 : decode cX7_bring 0 = .ok (.aload_n 0, 1) := by decide +kernel
theorem dX7_bring_1 : decode cX7_bring 1 = .ok (.getfield 22, 3) := by decide +kernel
theorem dX7_bring_4 : decode cX7_bring 4 = .ok (.aload_n 1, 1) := by decide +kernel
theorem dX7_bring_5 : decode cX7_bring 5 = .ok (.getfield 25, 3) := by decide +kernel
theorem dX7_bring_8 : decode cX7_bring 8 = .ok (.if_icmp .ne 4, 3) := by decide +kernel
theorem dX7_bring_11 : decode cX7_bring 11 = .ok (.return_, 1) := by decide +kernel
theorem dX7_bring_12 : decode cX7_bring 12 = .ok (.aload_n 0, 1) := by decide +kernel
theorem dX7_bring_13 : decode cX7_bring 13 = .ok (.aload_n 1, 1) := by decide +kernel
theorem dX7_bring_14 : decode cX7_bring 14 = .ok (.getfield 25, 3) := by decide +kernel
theorem dX7_bring_17 : decode cX7_bring 17 = .ok (.putfield 22, 3) := by decide +kernel
theorem dX7_bring_20 : decode cX7_bring 20 = .ok (.iload_n 2, 1) := by decide +kernel
theorem dX7_bring_21 : decode cX7_bring 21 = .ok (.istore_n 3, 1) := by decide +kernel
theorem dX7_bring_22 : decode cX7_bring 22 = .ok (.iload_n 3, 1) := by decide +kernel
theorem dX7_bring_23 : decode cX7_bring 23 = .ok (.aload_n 1, 1) := by decide +kernel
theorem dX7_bring_24 : decode cX7_bring 24 = .ok (.getfield 30, 3) := by decide +kernel
theorem dX7_bring_27 : decode cX7_bring 27 = .ok (.if_icmp .gt 33, 3) := by decide +kernel
theorem dX7_bring_30 : decode cX7_bring 30 = .ok (.aload_n 0, 1) := by decide +kernel
theorem dX7_bring_31 : decode cX7_bring 31 = .ok (.getfield 15, 3) := by decide +kernel
theorem dX7_bring_34 : decode cX7_bring 34 = .ok (.iconst 0, 1) := by decide +kernel
theorem dX7_bring_35 : decode cX7_bring 35 = .ok (.invokestatic 33, 3) := by decide +kernel
theorem dX7_bring_38 : decode cX7_bring 38 = .ok (.aload_n 0, 1) := by decide +kernel
theorem dX7_bring_39 : decode cX7_bring 39 = .ok (.iload_n 3, 1) := by decide +kernel
theorem dX7_bring_40 : decode cX7_bring 40 = .ok (.putfield 18, 3) := by decide +kernel
theorem dX7_bring_43 : decode cX7_bring 43 = .ok (.aload_n 0, 1) := by decide +kernel
theorem dX7_bring_44 : decode cX7_bring 44 = .ok (.aload_n 1, 1) := by decide +kernel
theorem dX7_bring_45 : decode cX7_bring 45 = .ok (.iconst 0, 1) := by decide +kernel
theorem dX7_bring_46 : decode cX7_bring 46 = .ok (.iconst 0, 1) := by decide +kernel
theorem dX7_bring_47 : decode cX7_bring 47 = .ok (.invokestatic 39, 3) := by decide +kernel
theorem dX7_bring_50 : decode cX7_bring 50 = .ok (.ifCond .eq 4, 3) := by decide +kernel
theorem dX7_bring_53 : decode cX7_bring 53 = .ok (.return_, 1) := by decide +kernel
theorem dX7_bring_54 : decode cX7_bring 54 = .ok (.iinc 3 1, 3) := by decide +kernel
theorem dX7_bring_57 : decode cX7_bring 57 = .ok (.goto (-35), 3) := by decide +kernel
theorem dX7_bring_60 : decode cX7_bring 60 = .ok (.return_, 1) := by decide +kernel
set_option maxRecDepth 20000 in
theorem ggX7_paints_X7_paints : GoodIn wsX7_paints wsX7_paints := goodIn_sub (gi_c 0 rfl (gi_a (gi_a (gi_c 1 rfl (gi_c 2 rfl (gi_c 3 rfl (gi_c 4 rfl (gi_c 5 rfl (gi_c 6 rfl (gi_c 7 rfl (gi_c 8 rfl (gi_c 9 rfl (gi_c 10 rfl gi_n)))))))))) pz_X7_paints_X40) pz_X7_paints_X70)) (by decide +kernel)
set_option maxRecDepth 20000 in
theorem gX7_paints_X7_paints : GoodIn wsX7_paints (va_wsS RX7 39 yX7_paints wsX7_paints) := goodIn_app (goodIn_of _ (by decide +kernel)) ggX7_paints_X7_paints
theorem dX7_paints_0 : decode cX7_paints 0 = .ok (.iload_n 2, 1) := by decide +kernel
theorem dX7_paints_1 : decode cX7_paints 1 = .ok (.aload_n 1, 1) := by decide +kernel
theorem dX7_paints_2 : decode cX7_paints 2 = .ok (.getfield 30, 3) := by decide +kernel
theorem dX7_paints_5 : decode cX7_paints 5 = .ok (.if_icmp .lt 5, 3) := by decide +kernel
theorem dX7_paints_8 : decode cX7_paints 8 = .ok (.iconst 1, 1) := by decide +kernel
theorem dX7_paints_9 : decode cX7_paints 9 = .ok (.ireturn, 1) := by decide +kernel
theorem dX7_paints_10 : decode cX7_paints 10 = .ok (.iconst 0, 1) := by decide +kernel
theorem dX7_paints_11 : decode cX7_paints 11 = .ok (.istore 4, 2) := by decide +kernel
theorem dX7_paints_13 : decode cX7_paints 13 = .ok (.iload 4, 2) := by decide +kernel
theorem dX7_paints_15 : decode cX7_paints 15 = .ok (.iload_n 3, 1) := by decide +kernel
theorem dX7_paints_16 : decode cX7_paints 16 = .ok (.if_icmp .gt 92, 3) := by decide +kernel
theorem dX7_paints_19 : decode cX7_paints 19 = .ok (.iload 4, 2) := by decide +kernel
theorem dX7_paints_21 : decode cX7_paints 21 = .ok (.aload_n 0, 1) := by decide +kernel
theorem dX7_paints_22 : decode cX7_paints 22 = .ok (.getfield 18, 3) := by decide +kernel
theorem dX7_paints_25 : decode cX7_paints 25 = .ok (.if_icmp .ge 83, 3) := by decide +kernel
theorem dX7_paints_28 : decode cX7_paints 28 = .ok (.aload_n 0, 1) := by decide +kernel
theorem dX7_paints_29 : decode cX7_paints 29 = .ok (.getfield 15, 3) := by decide +kernel
theorem dX7_paints_32 : decode cX7_paints 32 = .ok (.iload 4, 2) := by decide +kernel
theorem dX7_paints_34 : decode cX7_paints 34 = .ok (.iaload, 1) := by decide +kernel
theorem dX7_paints_35 : decode cX7_paints 35 = .ok (.aload_n 1, 1) := by decide +kernel
theorem dX7_paints_36 : decode cX7_paints 36 = .ok (.getfield 43, 3) := by decide +kernel
theorem dX7_paints_39 : decode cX7_paints 39 = .ok (.iload_n 2, 1) := by decide +kernel
theorem dX7_paints_40 : decode cX7_paints 40 = .ok (.iaload, 1) := by decide +kernel
theorem dX7_paints_41 : decode cX7_paints 41 = .ok (.iand, 1) := by decide +kernel
theorem dX7_paints_42 : decode cX7_paints 42 = .ok (.ifCond .ne 60, 3) := by decide +kernel
theorem dX7_paints_45 : decode cX7_paints 45 = .ok (.aload_n 0, 1) := by decide +kernel
theorem dX7_paints_46 : decode cX7_paints 46 = .ok (.getfield 15, 3) := by decide +kernel
theorem dX7_paints_49 : decode cX7_paints 49 = .ok (.iload 4, 2) := by decide +kernel
theorem dX7_paints_51 : decode cX7_paints 51 = .ok (.dup2, 1) := by decide +kernel
theorem dX7_paints_52 : decode cX7_paints 52 = .ok (.iaload, 1) := by decide +kernel
theorem dX7_paints_53 : decode cX7_paints 53 = .ok (.iconst 1, 1) := by decide +kernel
theorem dX7_paints_54 : decode cX7_paints 54 = .ok (.iload_n 2, 1) := by decide +kernel
theorem dX7_paints_55 : decode cX7_paints 55 = .ok (.ishl, 1) := by decide +kernel
theorem dX7_paints_56 : decode cX7_paints 56 = .ok (.ior, 1) := by decide +kernel
theorem dX7_paints_57 : decode cX7_paints 57 = .ok (.iastore, 1) := by decide +kernel
theorem dX7_paints_58 : decode cX7_paints 58 = .ok (.aload_n 0, 1) := by decide +kernel
theorem dX7_paints_59 : decode cX7_paints 59 = .ok (.getfield 9, 3) := by decide +kernel
theorem dX7_paints_62 : decode cX7_paints 62 = .ok (.iload_n 2, 1) := by decide +kernel
theorem dX7_paints_63 : decode cX7_paints 63 = .ok (.iload 4, 2) := by decide +kernel
theorem dX7_paints_65 : decode cX7_paints 65 = .ok (.iastore, 1) := by decide +kernel
theorem dX7_paints_66 : decode cX7_paints 66 = .ok (.aload_n 0, 1) := by decide +kernel
theorem dX7_paints_67 : decode cX7_paints 67 = .ok (.aload_n 1, 1) := by decide +kernel
theorem dX7_paints_68 : decode cX7_paints 68 = .ok (.iload_n 2, 1) := by decide +kernel
theorem dX7_paints_69 : decode cX7_paints 69 = .ok (.iconst 1, 1) := by decide +kernel
theorem dX7_paints_70 : decode cX7_paints 70 = .ok (.iadd, 1) := by decide +kernel
theorem dX7_paints_71 : decode cX7_paints 71 = .ok (.iload_n 3, 1) := by decide +kernel
theorem dX7_paints_72 : decode cX7_paints 72 = .ok (.iload 4, 2) := by decide +kernel
theorem dX7_paints_74 : decode cX7_paints 74 = .ok (.iconst 1, 1) := by decide +kernel
theorem dX7_paints_75 : decode cX7_paints 75 = .ok (.iadd, 1) := by decide +kernel
theorem dX7_paints_76 : decode cX7_paints 76 = .ok (.invokestatic 46, 3) := by decide +kernel
theorem dX7_paints_79 : decode cX7_paints 79 = .ok (.invokestatic 39, 3) := by decide +kernel
theorem dX7_paints_82 : decode cX7_paints 82 = .ok (.ifCond .eq 5, 3) := by decide +kernel
theorem dX7_paints_85 : decode cX7_paints 85 = .ok (.iconst 1, 1) := by decide +kernel
theorem dX7_paints_86 : decode cX7_paints 86 = .ok (.ireturn, 1) := by decide +kernel
theorem dX7_paints_87 : decode cX7_paints 87 = .ok (.aload_n 0, 1) := by decide +kernel
theorem dX7_paints_88 : decode cX7_paints 88 = .ok (.getfield 15, 3) := by decide +kernel
theorem dX7_paints_91 : decode cX7_paints 91 = .ok (.iload 4, 2) := by decide +kernel
theorem dX7_paints_93 : decode cX7_paints 93 = .ok (.dup2, 1) := by decide +kernel
theorem dX7_paints_94 : decode cX7_paints 94 = .ok (.iaload, 1) := by decide +kernel
theorem dX7_paints_95 : decode cX7_paints 95 = .ok (.iconst 1, 1) := by decide +kernel
theorem dX7_paints_96 : decode cX7_paints 96 = .ok (.iload_n 2, 1) := by decide +kernel
theorem dX7_paints_97 : decode cX7_paints 97 = .ok (.ishl, 1) := by decide +kernel
theorem dX7_paints_98 : decode cX7_paints 98 = .ok (.iconst (-1), 1) := by decide +kernel
theorem dX7_paints_99 : decode cX7_paints 99 = .ok (.ixor, 1) := by decide +kernel
theorem dX7_paints_100 : decode cX7_paints 100 = .ok (.iand, 1) := by decide +kernel
theorem dX7_paints_101 : decode cX7_paints 101 = .ok (.iastore, 1) := by decide +kernel
theorem dX7_paints_102 : decode cX7_paints 102 = .ok (.iinc 4 1, 3) := by decide +kernel
theorem dX7_paints_105 : decode cX7_paints 105 = .ok (.goto (-92), 3) := by decide +kernel
theorem dX7_paints_108 : decode cX7_paints 108 = .ok (.iconst 0, 1) := by decide +kernel
theorem dX7_paints_109 : decode cX7_paints 109 = .ok (.ireturn, 1) := by decide +kernel
set_option maxRecDepth 20000 in
theorem ggX8_bring_X4_all : GoodIn wsX8_bring wsX4_all := goodIn_sub (gi_t pz_X8_bring_X8_bring_r1 7 rfl (gi_a (gi_t pz_X8_bring_X8_bring_r1 8 rfl gi_n) pz_X8_bring_X40)) (by decide +kernel)
set_option maxRecDepth 20000 in
theorem gX8_bring_X4_all_n33 : GoodIn wsX8_bring (wsX4_all) := ggX8_bring_X4_all
set_option maxRecDepth 20000 in
theorem ggX8_bring_X8_isPart : GoodIn wsX8_bring wsX8_isPart := goodIn_sub (gi_t pz_X8_bring_X8_bring_r1 13 rfl (gi_a (gi_a (gi_a (gi_t pz_X8_bring_X8_bring_r1 1 rfl (gi_t pz_X8_bring_X8_bring_r1 2 rfl (gi_t pz_X8_bring_X8_bring_r1 4 rfl (gi_t pz_X8_bring_X8_bring_r1 5 rfl (gi_t pz_X8_bring_X8_bring_r1 6 rfl (gi_t pz_X8_bring_X8_bring_r1 7 rfl (gi_t pz_X8_bring_X8_bring_r1 8 rfl (gi_t pz_X8_bring_X8_bring_r1 14 rfl (gi_t pz_X8_bring_X8_bring_r1 15 rfl (gi_t pz_X8_bring_X8_bring_r1 16 rfl (gi_t pz_X8_bring_X8_bring_r1 17 rfl (gi_t pz_X8_bring_X8_bring_r1 18 rfl (gi_t pz_X8_bring_X8_bring_r1 19 rfl (gi_t pz_X8_bring_X8_bring_r1 20 rfl (gi_t pz_X8_bring_X8_bring_r1 21 rfl (gi_t pz_X8_bring_X8_bring_r1 22 rfl (gi_t pz_X8_bring_X8_bring_r1 23 rfl (gi_t pz_X8_bring_X8_bring_r2 0 rfl (gi_t pz_X8_bring_X8_bring_r2 1 rfl (gi_t pz_X8_bring_X8_bring_r2 2 rfl (gi_t pz_X8_bring_X8_bring_r2 3 rfl (gi_t pz_X8_bring_X8_bring_r2 4 rfl (gi_t pz_X8_bring_X8_bring_r2 5 rfl (gi_t pz_X8_bring_X8_bring_r2 6 rfl gi_n)))))))))))))))))))))))) (gi_t pz_X8_bring_X8_bring_r2 7 rfl (gi_t pz_X8_bring_X8_bring_r2 8 rfl (gi_t pz_X8_bring_X8_bring_r2 9 rfl (gi_t pz_X8_bring_X8_bring_r2 10 rfl gi_n))))) pz_X8_bring_X80) pz_X8_bring_X40)) (by decide +kernel)
set_option maxRecDepth 20000 in
theorem gX8_bring_X8_isPart : GoodIn wsX8_bring (wsV RX8 40 RX8 yX8_isPart wsX8_isPart) := goodIn_app (goodIn_of _ (by decide +kernel)) ggX8_bring_X8_isPart
set_option maxRecDepth 20000 in
theorem ggX8_bring_X8_keep : GoodIn wsX8_bring wsX8_keep := goodIn_sub (gi_t pz_X8_bring_X8_bring_r2 14 rfl (gi_a (gi_t pz_X8_bring_X8_bring_r1 3 rfl (gi_t pz_X8_bring_X8_bring_r2 15 rfl gi_n)) pz_X8_bring_X80)) (by decide +kernel)
set_option maxRecDepth 20000 in
theorem gX8_bring_X8_keep : GoodIn wsX8_bring (wsV RX8 44 RX8 yX8_keep wsX8_keep) := goodIn_app (goodIn_of _ (by decide +kernel)) ggX8_bring_X8_keep
theorem dX8_bring_0 : decode cX8_bring 0 = .ok (.aload_n 0, 1) := by decide +kernel
theorem dX8_bring_1 : decode cX8_bring 1 = .ok (.getfield 19, 3) := by decide +kernel
theorem dX8_bring_4 : decode cX8_bring 4 = .ok (.aload_n 1, 1) := by decide +kernel
theorem dX8_bring_5 : decode cX8_bring 5 = .ok (.getfield 28, 3) := by decide +kernel
theorem dX8_bring_8 : decode cX8_bring 8 = .ok (.if_icmp .ne 20, 3) := by decide +kernel
theorem dX8_bring_11 : decode cX8_bring 11 = .ok (.aload_n 0, 1) := by decide +kernel
theorem dX8_bring_12 : decode cX8_bring 12 = .ok (.getfield 22, 3) := by decide +kernel
theorem dX8_bring_15 : decode cX8_bring 15 = .ok (.iload_n 2, 1) := by decide +kernel
theorem dX8_bring_16 : decode cX8_bring 16 = .ok (.if_icmp .ne 12, 3) := by decide +kernel
theorem dX8_bring_19 : decode cX8_bring 19 = .ok (.aload_n 0, 1) := by decide +kernel
theorem dX8_bring_20 : decode cX8_bring 20 = .ok (.getfield 25, 3) := by decide +kernel
theorem dX8_bring_23 : decode cX8_bring 23 = .ok (.iload_n 3, 1) := by decide +kernel
theorem dX8_bring_24 : decode cX8_bring 24 = .ok (.if_icmp .ne 4, 3) := by decide +kernel
theorem dX8_bring_27 : decode cX8_bring 27 = .ok (.return_, 1) := by decide +kernel
theorem dX8_bring_28 : decode cX8_bring 28 = .ok (.aload_n 0, 1) := by decide +kernel
theorem dX8_bring_29 : decode cX8_bring 29 = .ok (.aload_n 1, 1) := by decide +kernel
theorem dX8_bring_30 : decode cX8_bring 30 = .ok (.getfield 28, 3) := by decide +kernel
theorem dX8_bring_33 : decode cX8_bring 33 = .ok (.putfield 19, 3) := by decide +kernel
theorem dX8_bring_36 : decode cX8_bring 36 = .ok (.aload_n 0, 1) := by decide +kernel
theorem dX8_bring_37 : decode cX8_bring 37 = .ok (.iload_n 2, 1) := by decide +kernel
theorem dX8_bring_38 : decode cX8_bring 38 = .ok (.putfield 22, 3) := by decide +kernel
theorem dX8_bring_41 : decode cX8_bring 41 = .ok (.aload_n 0, 1) := by decide +kernel
theorem dX8_bring_42 : decode cX8_bring 42 = .ok (.iload_n 3, 1) := by decide +kernel
theorem dX8_bring_43 : decode cX8_bring 43 = .ok (.putfield 25, 3) := by decide +kernel
theorem dX8_bring_46 : decode cX8_bring 46 = .ok (.aload_n 0, 1) := by decide +kernel
theorem dX8_bring_47 : decode cX8_bring 47 = .ok (.iconst 0, 1) := by decide +kernel
theorem dX8_bring_48 : decode cX8_bring 48 = .ok (.putfield 15, 3) := by decide +kernel
theorem dX8_bring_51 : decode cX8_bring 51 = .ok (.aload_n 1, 1) := by decide +kernel
theorem dX8_bring_52 : decode cX8_bring 52 = .ok (.invokevirtual 33, 3) := by decide +kernel
theorem dX8_bring_55 : decode cX8_bring 55 = .ok (.iconst 1, 1) := by decide +kernel
theorem dX8_bring_56 : decode cX8_bring 56 = .ok (.iload_n 2, 1) := by decide +kernel
theorem dX8_bring_57 : decode cX8_bring 57 = .ok (.ishl, 1) := by decide +kernel
theorem dX8_bring_58 : decode cX8_bring 58 = .ok (.iconst (-1), 1) := by decide +kernel
theorem dX8_bring_59 : decode cX8_bring 59 = .ok (.ixor, 1) := by decide +kernel
theorem dX8_bring_60 : decode cX8_bring 60 = .ok (.iand, 1) := by decide +kernel
theorem dX8_bring_61 : decode cX8_bring 61 = .ok (.iconst 1, 1) := by decide +kernel
theorem dX8_bring_62 : decode cX8_bring 62 = .ok (.iload_n 3, 1) := by decide +kernel
theorem dX8_bring_63 : decode cX8_bring 63 = .ok (.ishl, 1) := by decide +kernel
theorem dX8_bring_64 : decode cX8_bring 64 = .ok (.iconst (-1), 1) := by decide +kernel
theorem dX8_bring_65 : decode cX8_bring 65 = .ok (.ixor, 1) := by decide +kernel
theorem dX8_bring_66 : decode cX8_bring 66 = .ok (.iand, 1) := by decide +kernel
theorem dX8_bring_67 : decode cX8_bring 67 = .ok (.istore 4, 2) := by decide +kernel
theorem dX8_bring_69 : decode cX8_bring 69 = .ok (.aload_n 1, 1) := by decide +kernel
theorem dX8_bring_70 : decode cX8_bring 70 = .ok (.getfield 37, 3) := by decide +kernel
theorem dX8_bring_73 : decode cX8_bring 73 = .ok (.iload_n 2, 1) := by decide +kernel
theorem dX8_bring_74 : decode cX8_bring 74 = .ok (.iaload, 1) := by decide +kernel
theorem dX8_bring_75 : decode cX8_bring 75 = .ok (.aload_n 1, 1) := by decide +kernel
theorem dX8_bring_76 : decode cX8_bring 76 = .ok (.getfield 37, 3) := by decide +kernel
theorem dX8_bring_79 : decode cX8_bring 79 = .ok (.iload_n 3, 1) := by decide +kernel
theorem dX8_bring_80 : decode cX8_bring 80 = .ok (.iaload, 1) := by decide +kernel
theorem dX8_bring_81 : decode cX8_bring 81 = .ok (.iand, 1) := by decide +kernel
theorem dX8_bring_82 : decode cX8_bring 82 = .ok (.istore 5, 2) := by decide +kernel
theorem dX8_bring_84 : decode cX8_bring 84 = .ok (.iload 5, 2) := by decide +kernel
theorem dX8_bring_86 : decode cX8_bring 86 = .ok (.istore 6, 2) := by decide +kernel
theorem dX8_bring_88 : decode cX8_bring 88 = .ok (.iload 6, 2) := by decide +kernel
theorem dX8_bring_90 : decode cX8_bring 90 = .ok (.iload 4, 2) := by decide +kernel
theorem dX8_bring_92 : decode cX8_bring 92 = .ok (.if_icmp .gt 45, 3) := by decide +kernel
theorem dX8_bring_95 : decode cX8_bring 95 = .ok (.iload 6, 2) := by decide +kernel
theorem dX8_bring_97 : decode cX8_bring 97 = .ok (.iload 4, 2) := by decide +kernel
theorem dX8_bring_99 : decode cX8_bring 99 = .ok (.iconst (-1), 1) := by decide +kernel
theorem dX8_bring_100 : decode cX8_bring 100 = .ok (.ixor, 1) := by decide +kernel
theorem dX8_bring_101 : decode cX8_bring 101 = .ok (.iand, 1) := by decide +kernel
theorem dX8_bring_102 : decode cX8_bring 102 = .ok (.ifCond .ne 29, 3) := by decide +kernel
theorem dX8_bring_105 : decode cX8_bring 105 = .ok (.iload 6, 2) := by decide +kernel
theorem dX8_bring_107 : decode cX8_bring 107 = .ok (.iload 5, 2) := by decide +kernel
theorem dX8_bring_109 : decode cX8_bring 109 = .ok (.iand, 1) := by decide +kernel
theorem dX8_bring_110 : decode cX8_bring 110 = .ok (.iload 5, 2) := by decide +kernel
theorem dX8_bring_112 : decode cX8_bring 112 = .ok (.if_icmp .ne 19, 3) := by decide +kernel
theorem dX8_bring_115 : decode cX8_bring 115 = .ok (.aload_n 0, 1) := by decide +kernel
theorem dX8_bring_116 : decode cX8_bring 116 = .ok (.aload_n 1, 1) := by decide +kernel
theorem dX8_bring_117 : decode cX8_bring 117 = .ok (.iload 6, 2) := by decide +kernel
theorem dX8_bring_119 : decode cX8_bring 119 = .ok (.invokevirtual 40, 3) := by decide +kernel
theorem dX8_bring_122 : decode cX8_bring 122 = .ok (.ifCond .eq 9, 3) := by decide +kernel
theorem dX8_bring_125 : decode cX8_bring 125 = .ok (.aload_n 0, 1) := by decide +kernel
theorem dX8_bring_126 : decode cX8_bring 126 = .ok (.iload 6, 2) := by decide +kernel
theorem dX8_bring_128 : decode cX8_bring 128 = .ok (.invokevirtual 44, 3) := by decide +kernel
theorem dX8_bring_131 : decode cX8_bring 131 = .ok (.iinc 6 1, 3) := by decide +kernel
theorem dX8_bring_134 : decode cX8_bring 134 = .ok (.goto (-46), 3) := by decide +kernel
theorem dX8_bring_137 : decode cX8_bring 137 = .ok (.return_, 1) := by decide +kernel
set_option maxRecDepth 20000 in
theorem ggX8_isPart_X4_all : GoodIn wsX8_isPart wsX4_all := goodIn_sub (gi_t pz_X8_isPart_X8_isPart_r1 5 rfl (gi_a (gi_t pz_X8_isPart_X8_isPart_r1 6 rfl gi_n) pz_X8_isPart_X40)) (by decide +kernel)
set_option maxRecDepth 20000 in
theorem gX8_isPart_X4_all_n33 : GoodIn wsX8_isPart (wsX4_all) := ggX8_isPart_X4_all
set_option maxRecDepth 20000 in
theorem ggX8_isPart_X4_reach : GoodIn wsX8_isPart wsX4_reach := goodIn_sub (gi_t pz_X8_isPart_X8_isPart_r1 9 rfl (gi_a (gi_t pz_X8_isPart_X8_isPart_r1 10 rfl (gi_t pz_X8_isPart_X8_isPart_r1 11 rfl (gi_t pz_X8_isPart_X8_isPart_r1 12 rfl (gi_t pz_X8_isPart_X8_isPart_r1 13 rfl (gi_t pz_X8_isPart_X8_isPart_r1 14 rfl (gi_t pz_X8_isPart_X8_isPart_r1 15 rfl (gi_t pz_X8_isPart_X8_isPart_r1 16 rfl (gi_t pz_X8_isPart_X8_isPart_r1 17 rfl (gi_t pz_X8_isPart_X8_isPart_r1 18 rfl (gi_t pz_X8_isPart_X8_isPart_r1 19 rfl (gi_t pz_X8_isPart_X8_isPart_r1 20 rfl (gi_t pz_X8_isPart_X8_isPart_r1 21 rfl gi_n)))))))))))) pz_X8_isPart_X40)) (by decide +kernel)
set_option maxRecDepth 20000 in
theorem gX8_isPart_X4_reach_n48 : GoodIn wsX8_isPart (wsX4_reach) := ggX8_isPart_X4_reach
set_option maxRecDepth 20000 in
theorem ggX8_isPart_X11_in : GoodIn wsX8_isPart wsX11_in := goodIn_sub (gi_t pz_X8_isPart_X8_isPart_r1 23 rfl gi_n) (by decide +kernel)
set_option maxRecDepth 20000 in
theorem gX8_isPart_X11_in_n52 : GoodIn wsX8_isPart (wsX11_in) := ggX8_isPart_X11_in
set_option maxRecDepth 20000 in
theorem ggX8_isPart_X4_around : GoodIn wsX8_isPart wsX4_around := goodIn_sub (gi_t pz_X8_isPart_X8_isPart_r2 2 rfl (gi_a (gi_t pz_X8_isPart_X8_isPart_r1 6 rfl (gi_t pz_X8_isPart_X8_isPart_r1 10 rfl (gi_t pz_X8_isPart_X8_isPart_r2 3 rfl (gi_t pz_X8_isPart_X8_isPart_r1 15 rfl (gi_t pz_X8_isPart_X8_isPart_r1 16 rfl (gi_t pz_X8_isPart_X8_isPart_r1 17 rfl (gi_t pz_X8_isPart_X8_isPart_r1 18 rfl (gi_t pz_X8_isPart_X8_isPart_r1 20 rfl (gi_t pz_X8_isPart_X8_isPart_r1 12 rfl (gi_t pz_X8_isPart_X8_isPart_r1 21 rfl gi_n)))))))))) pz_X8_isPart_X40)) (by decide +kernel)
set_option maxRecDepth 20000 in
theorem gX8_isPart_X4_around_n56 : GoodIn wsX8_isPart (wsX4_around) := ggX8_isPart_X4_around
theorem dX8_isPart_0 : decode cX8_isPart 0 = .ok (.aload_n 1, 1) := by decide +kernel
theorem dX8_isPart_1 : decode cX8_isPart 1 = .ok (.invokevirtual 33, 3) := by decide +kernel
theorem dX8_isPart_4 : decode cX8_isPart 4 = .ok (.iload_n 2, 1) := by decide +kernel
theorem dX8_isPart_5 : decode cX8_isPart 5 = .ok (.iconst (-1), 1) := by decide +kernel
theorem dX8_isPart_6 : decode cX8_isPart 6 = .ok (.ixor, 1) := by decide +kernel
theorem dX8_isPart_7 : decode cX8_isPart 7 = .ok (.iand, 1) := by decide +kernel
theorem dX8_isPart_8 : decode cX8_isPart 8 = .ok (.istore_n 3, 1) := by decide +kernel
theorem dX8_isPart_9 : decode cX8_isPart 9 = .ok (.aload_n 1, 1) := by decide +kernel
theorem dX8_isPart_10 : decode cX8_isPart 10 = .ok (.aload_n 0, 1) := by decide +kernel
theorem dX8_isPart_11 : decode cX8_isPart 11 = .ok (.getfield 22, 3) := by decide +kernel
theorem dX8_isPart_14 : decode cX8_isPart 14 = .ok (.iload_n 3, 1) := by decide +kernel
theorem dX8_isPart_15 : decode cX8_isPart 15 = .ok (.invokevirtual 48, 3) := by decide +kernel
theorem dX8_isPart_18 : decode cX8_isPart 18 = .ok (.istore 4, 2) := by decide +kernel
theorem dX8_isPart_20 : decode cX8_isPart 20 = .ok (.iload 4, 2) := by decide +kernel
theorem dX8_isPart_22 : decode cX8_isPart 22 = .ok (.aload_n 0, 1) := by decide +kernel
theorem dX8_isPart_23 : decode cX8_isPart 23 = .ok (.getfield 25, 3) := by decide +kernel
theorem dX8_isPart_26 : decode cX8_isPart 26 = .ok (.invokestatic 52, 3) := by decide +kernel
theorem dX8_isPart_29 : decode cX8_isPart 29 = .ok (.ifCond .ne 34, 3) := by decide +kernel
theorem dX8_isPart_32 : decode cX8_isPart 32 = .ok (.aload_n 1, 1) := by decide +kernel
theorem dX8_isPart_33 : decode cX8_isPart 33 = .ok (.iload 4, 2) := by decide +kernel
theorem dX8_isPart_35 : decode cX8_isPart 35 = .ok (.invokevirtual 56, 3) := by decide +kernel
theorem dX8_isPart_38 : decode cX8_isPart 38 = .ok (.iload_n 2, 1) := by decide +kernel
theorem dX8_isPart_39 : decode cX8_isPart 39 = .ok (.if_icmp .ne 24, 3) := by decide +kernel
theorem dX8_isPart_42 : decode cX8_isPart 42 = .ok (.aload_n 1, 1) := by decide +kernel
theorem dX8_isPart_43 : decode cX8_isPart 43 = .ok (.aload_n 1, 1) := by decide +kernel
theorem dX8_isPart_44 : decode cX8_isPart 44 = .ok (.aload_n 0, 1) := by decide +kernel
theorem dX8_isPart_45 : decode cX8_isPart 45 = .ok (.getfield 25, 3) := by decide +kernel
theorem dX8_isPart_48 : decode cX8_isPart 48 = .ok (.iload_n 3, 1) := by decide +kernel
theorem dX8_isPart_49 : decode cX8_isPart 49 = .ok (.invokevirtual 48, 3) := by decide +kernel
theorem dX8_isPart_52 : decode cX8_isPart 52 = .ok (.invokevirtual 56, 3) := by decide +kernel
theorem dX8_isPart_55 : decode cX8_isPart 55 = .ok (.iload_n 2, 1) := by decide +kernel
theorem dX8_isPart_56 : decode cX8_isPart 56 = .ok (.if_icmp .ne 7, 3) := by decide +kernel
theorem dX8_isPart_59 : decode cX8_isPart 59 = .ok (.iconst 1, 1) := by decide +kernel
theorem dX8_isPart_60 : decode cX8_isPart 60 = .ok (.goto 4, 3) := by decide +kernel
theorem dX8_isPart_63 : decode cX8_isPart 63 = .ok (.iconst 0, 1) := by decide +kernel
theorem dX8_isPart_64 : decode cX8_isPart 64 = .ok (.ireturn, 1) := by decide +kernel
theorem dX8_keep_0 : decode cX8_keep 0 = .ok (.aload_n 0, 1) := by decide +kernel
theorem dX8_keep_1 : decode cX8_keep 1 = .ok (.getfield 15, 3) := by decide +kernel
theorem dX8_keep_4 : decode cX8_keep 4 = .ok (.sipush 252, 3) := by decide +kernel
theorem dX8_keep_7 : decode cX8_keep 7 = .ok (.if_icmp .ge 23, 3) := by decide +kernel
theorem dX8_keep_10 : decode cX8_keep 10 = .ok (.aload_n 0, 1) := by decide +kernel
theorem dX8_keep_11 : decode cX8_keep 11 = .ok (.getfield 9, 3) := by decide +kernel
theorem dX8_keep_14 : decode cX8_keep 14 = .ok (.aload_n 0, 1) := by decide +kernel
theorem dX8_keep_15 : decode cX8_keep 15 = .ok (.getfield 15, 3) := by decide +kernel
theorem dX8_keep_18 : decode cX8_keep 18 = .ok (.iload_n 1, 1) := by decide +kernel
theorem dX8_keep_19 : decode cX8_keep 19 = .ok (.iastore, 1) := by decide +kernel
theorem dX8_keep_20 : decode cX8_keep 20 = .ok (.aload_n 0, 1) := by decide +kernel
theorem dX8_keep_21 : decode cX8_keep 21 = .ok (.dup, 1) := by decide +kernel
theorem dX8_keep_22 : decode cX8_keep 22 = .ok (.getfield 15, 3) := by decide +kernel
theorem dX8_keep_25 : decode cX8_keep 25 = .ok (.iconst 1, 1) := by decide +kernel
theorem dX8_keep_26 : decode cX8_keep 26 = .ok (.iadd, 1) := by decide +kernel
theorem dX8_keep_27 : decode cX8_keep 27 = .ok (.putfield 15, 3) := by decide +kernel
theorem dX8_keep_30 : decode cX8_keep 30 = .ok (.return_, 1) := by decide +kernel
set_option maxRecDepth 20000 in
theorem ggX9_bring_X3_goesWithoutFill : GoodIn wsX9_bring wsX3_goesWithoutFill := goodIn_sub (gi_t pz_X9_bring_X9_bring_r1 6 rfl (gi_a (gi_a (gi_a (gi_t pz_X9_bring_X9_bring_r1 7 rfl (gi_t pz_X9_bring_X9_bring_r1 8 rfl (gi_t pz_X9_bring_X9_bring_r1 9 rfl (gi_t pz_X9_bring_X9_bring_r1 10 rfl (gi_t pz_X9_bring_X9_bring_r1 4 rfl (gi_t pz_X9_bring_X9_bring_r1 11 rfl (gi_t pz_X9_bring_X9_bring_r1 12 rfl (gi_t pz_X9_bring_X9_bring_r1 13 rfl (gi_t pz_X9_bring_X9_bring_r1 14 rfl (gi_t pz_X9_bring_X9_bring_r1 15 rfl (gi_t pz_X9_bring_X9_bring_r1 16 rfl (gi_t pz_X9_bring_X9_bring_r1 17 rfl (gi_t pz_X9_bring_X9_bring_r1 18 rfl (gi_t pz_X9_bring_X9_bring_r1 19 rfl (gi_t pz_X9_bring_X9_bring_r1 20 rfl (gi_t pz_X9_bring_X9_bring_r1 21 rfl (gi_t pz_X9_bring_X9_bring_r1 22 rfl (gi_t pz_X9_bring_X9_bring_r1 23 rfl (gi_t pz_X9_bring_X9_bring_r2 0 rfl (gi_t pz_X9_bring_X9_bring_r2 1 rfl (gi_t pz_X9_bring_X9_bring_r2 2 rfl (gi_t pz_X9_bring_X9_bring_r2 3 rfl (gi_t pz_X9_bring_X9_bring_r2 4 rfl (gi_t pz_X9_bring_X9_bring_r2 5 rfl gi_n)))))))))))))))))))))))) (gi_t pz_X9_bring_X9_bring_r2 6 rfl (gi_t pz_X9_bring_X9_bring_r2 7 rfl (gi_t pz_X9_bring_X9_bring_r2 8 rfl (gi_t pz_X9_bring_X9_bring_r2 9 rfl (gi_t pz_X9_bring_X9_bring_r2 10 rfl (gi_t pz_X9_bring_X9_bring_r2 11 rfl (gi_t pz_X9_bring_X9_bring_r2 12 rfl (gi_t pz_X9_bring_X9_bring_r2 13 rfl (gi_t pz_X9_bring_X9_bring_r2 14 rfl (gi_t pz_X9_bring_X9_bring_r2 15 rfl (gi_t pz_X9_bring_X9_bring_r2 16 rfl (gi_t pz_X9_bring_X9_bring_r2 17 rfl (gi_t pz_X9_bring_X9_bring_r2 18 rfl (gi_t pz_X9_bring_X9_bring_r2 19 rfl gi_n))))))))))))))) pz_X9_bring_X30) pz_X9_bring_X40)) (by decide +kernel)
set_option maxRecDepth 20000 in
theorem gX9_bring_X3_goesWithoutFill_n34 : GoodIn wsX9_bring (wsX3_goesWithoutFill) := ggX9_bring_X3_goesWithoutFill
set_option maxRecDepth 20000 in
theorem ggX9_bring_X9_lookFor : GoodIn wsX9_bring wsX9_lookFor := goodIn_sub (gi_t pz_X9_bring_X9_bring_r3 0 rfl (gi_a (gi_a (gi_t pz_X9_bring_X9_bring_r3 1 rfl (gi_t pz_X9_bring_X9_bring_r3 2 rfl (gi_t pz_X9_bring_X9_bring_r3 3 rfl (gi_t pz_X9_bring_X9_bring_r2 23 rfl (gi_t pz_X9_bring_X9_bring_r3 4 rfl (gi_t pz_X9_bring_X9_bring_r3 5 rfl (gi_t pz_X9_bring_X9_bring_r3 6 rfl (gi_t pz_X9_bring_X9_bring_r3 7 rfl (gi_t pz_X9_bring_X9_bring_r3 8 rfl (gi_t pz_X9_bring_X9_bring_r3 9 rfl (gi_t pz_X9_bring_X9_bring_r3 10 rfl (gi_t pz_X9_bring_X9_bring_r3 11 rfl (gi_t pz_X9_bring_X9_bring_r2 2 rfl (gi_t pz_X9_bring_X9_bring_r2 3 rfl (gi_t pz_X9_bring_X9_bring_r2 4 rfl gi_n))))))))))))))) pz_X9_bring_X40) pz_X9_bring_X90)) (by decide +kernel)
set_option maxRecDepth 20000 in
theorem gX9_bring_X9_lookFor : GoodIn wsX9_bring (wsV RX9 38 RX9 yX9_lookFor wsX9_lookFor) := goodIn_app (goodIn_of _ (by decide +kernel)) ggX9_bring_X9_lookFor
theorem dX9_bring_0 : decode cX9_bring 0 = .ok (.aload_n 0, 1) := by decide +kernel
theorem dX9_bring_1 : decode cX9_bring 1 = .ok (.getfield 26, 3) := by decide +kernel
theorem dX9_bring_4 : decode cX9_bring 4 = .ok (.aload_n 1, 1) := by decide +kernel
theorem dX9_bring_5 : decode cX9_bring 5 = .ok (.getfield 29, 3) := by decide +kernel
theorem dX9_bring_8 : decode cX9_bring 8 = .ok (.if_icmp .ne 4, 3) := by decide +kernel
theorem dX9_bring_11 : decode cX9_bring 11 = .ok (.return_, 1) := by decide +kernel
theorem dX9_bring_12 : decode cX9_bring 12 = .ok (.aload_n 0, 1) := by decide +kernel
theorem dX9_bring_13 : decode cX9_bring 13 = .ok (.aload_n 1, 1) := by decide +kernel
theorem dX9_bring_14 : decode cX9_bring 14 = .ok (.getfield 29, 3) := by decide +kernel
theorem dX9_bring_17 : decode cX9_bring 17 = .ok (.putfield 26, 3) := by decide +kernel
theorem dX9_bring_20 : decode cX9_bring 20 = .ok (.aload_n 0, 1) := by decide +kernel
theorem dX9_bring_21 : decode cX9_bring 21 = .ok (.aload_n 0, 1) := by decide +kernel
theorem dX9_bring_22 : decode cX9_bring 22 = .ok (.getfield 12, 3) := by decide +kernel
theorem dX9_bring_25 : decode cX9_bring 25 = .ok (.aload_n 1, 1) := by decide +kernel
theorem dX9_bring_26 : decode cX9_bring 26 = .ok (.invokevirtual 34, 3) := by decide +kernel
theorem dX9_bring_29 : decode cX9_bring 29 = .ok (.ifCond .eq 7, 3) := by decide +kernel
theorem dX9_bring_32 : decode cX9_bring 32 = .ok (.iconst 0, 1) := by decide +kernel
theorem dX9_bring_33 : decode cX9_bring 33 = .ok (.goto 8, 3) := by decide +kernel
theorem dX9_bring_36 : decode cX9_bring 36 = .ok (.aload_n 0, 1) := by decide +kernel
theorem dX9_bring_37 : decode cX9_bring 37 = .ok (.aload_n 1, 1) := by decide +kernel
theorem dX9_bring_38 : decode cX9_bring 38 = .ok (.invokevirtual 38, 3) := by decide +kernel
theorem dX9_bring_41 : decode cX9_bring 41 = .ok (.putfield 22, 3) := by decide +kernel
theorem dX9_bring_44 : decode cX9_bring 44 = .ok (.return_, 1) := by decide +kernel
set_option maxRecDepth 20000 in
theorem ggX9_lookFor_X9_closes : GoodIn wsX9_lookFor wsX9_closes := goodIn_sub (gi_c 5 rfl (gi_a (gi_a (gi_c 1 rfl (gi_c 6 rfl (gi_c 7 rfl (gi_c 8 rfl (gi_c 4 rfl (gi_c 9 rfl (gi_c 10 rfl (gi_c 11 rfl (gi_c 12 rfl (gi_c 13 rfl (gi_c 14 rfl (gi_c 15 rfl (gi_c 2 rfl (gi_c 3 rfl gi_n)))))))))))))) pz_X9_lookFor_X40) pz_X9_lookFor_X90)) (by decide +kernel)
set_option maxRecDepth 20000 in
theorem gX9_lookFor_X9_closes : GoodIn wsX9_lookFor (va_wsS RX9 45 yX9_closes wsX9_closes) := goodIn_app (goodIn_of _ (by decide +kernel)) ggX9_lookFor_X9_closes
theorem dX9_lookFor_0 : decode cX9_lookFor 0 = .ok (.iconst 4, 1) := by decide +kernel
theorem dX9_lookFor_1 : decode cX9_lookFor 1 = .ok (.istore_n 2, 1) := by decide +kernel
theorem dX9_lookFor_2 : decode cX9_lookFor 2 = .ok (.iload_n 2, 1) := by decide +kernel
theorem dX9_lookFor_3 : decode cX9_lookFor 3 = .ok (.aload_n 1, 1) := by decide +kernel
theorem dX9_lookFor_4 : decode cX9_lookFor 4 = .ok (.getfield 42, 3) := by decide +kernel
theorem dX9_lookFor_7 : decode cX9_lookFor 7 = .ok (.if_icmp .gt 45, 3) := by decide +kernel
theorem dX9_lookFor_10 : decode cX9_lookFor 10 = .ok (.iconst 0, 1) := by decide +kernel
theorem dX9_lookFor_11 : decode cX9_lookFor 11 = .ok (.istore_n 3, 1) := by decide +kernel
theorem dX9_lookFor_12 : decode cX9_lookFor 12 = .ok (.iload_n 3, 1) := by decide +kernel
theorem dX9_lookFor_13 : decode cX9_lookFor 13 = .ok (.aload_n 1, 1) := by decide +kernel
theorem dX9_lookFor_14 : decode cX9_lookFor 14 = .ok (.getfield 42, 3) := by decide +kernel
theorem dX9_lookFor_17 : decode cX9_lookFor 17 = .ok (.if_icmp .ge 29, 3) := by decide +kernel
theorem dX9_lookFor_20 : decode cX9_lookFor 20 = .ok (.aload_n 0, 1) := by decide +kernel
theorem dX9_lookFor_21 : decode cX9_lookFor 21 = .ok (.getfield 18, 3) := by decide +kernel
theorem dX9_lookFor_24 : decode cX9_lookFor 24 = .ok (.iconst 0, 1) := by decide +kernel
theorem dX9_lookFor_25 : decode cX9_lookFor 25 = .ok (.iload_n 3, 1) := by decide +kernel
theorem dX9_lookFor_26 : decode cX9_lookFor 26 = .ok (.iastore, 1) := by decide +kernel
theorem dX9_lookFor_27 : decode cX9_lookFor 27 = .ok (.aload_n 0, 1) := by decide +kernel
theorem dX9_lookFor_28 : decode cX9_lookFor 28 = .ok (.aload_n 1, 1) := by decide +kernel
theorem dX9_lookFor_29 : decode cX9_lookFor 29 = .ok (.iload_n 2, 1) := by decide +kernel
theorem dX9_lookFor_30 : decode cX9_lookFor 30 = .ok (.iconst 1, 1) := by decide +kernel
theorem dX9_lookFor_31 : decode cX9_lookFor 31 = .ok (.iconst 0, 1) := by decide +kernel
theorem dX9_lookFor_32 : decode cX9_lookFor 32 = .ok (.invokestatic 45, 3) := by decide +kernel
theorem dX9_lookFor_35 : decode cX9_lookFor 35 = .ok (.ifCond .eq 5, 3) := by decide +kernel
theorem dX9_lookFor_38 : decode cX9_lookFor 38 = .ok (.iload_n 2, 1) := by decide +kernel
theorem dX9_lookFor_39 : decode cX9_lookFor 39 = .ok (.ireturn, 1) := by decide +kernel
theorem dX9_lookFor_40 : decode cX9_lookFor 40 = .ok (.iinc 3 1, 3) := by decide +kernel
theorem dX9_lookFor_43 : decode cX9_lookFor 43 = .ok (.goto (-31), 3) := by decide +kernel
theorem dX9_lookFor_46 : decode cX9_lookFor 46 = .ok (.iinc 2 1, 3) := by decide +kernel
theorem dX9_lookFor_49 : decode cX9_lookFor 49 = .ok (.goto (-47), 3) := by decide +kernel
theorem dX9_lookFor_52 : decode cX9_lookFor 52 = .ok (.iconst 0, 1) := by decide +kernel
theorem dX9_lookFor_53 : decode cX9_lookFor 53 = .ok (.ireturn, 1) := by decide +kernel
set_option maxRecDepth 20000 in
theorem ggX9_closes_X9_nextOnes : GoodIn wsX9_closes wsX9_nextOnes := goodIn_sub (gi_c 6 rfl (gi_a (gi_a (gi_c 1 rfl (gi_c 7 rfl (gi_c 8 rfl (gi_c 5 rfl (gi_c 9 rfl gi_n))))) pz_X9_closes_X90) pz_X9_closes_X40)) (by decide +kernel)
set_option maxRecDepth 20000 in
theorem gX9_closes_X9_nextOnes : GoodIn wsX9_closes (wsV RX9 49 RX9 yX9_nextOnes wsX9_nextOnes) := goodIn_app (goodIn_of _ (by decide +kernel)) ggX9_closes_X9_nextOnes
set_option maxRecDepth 20000 in
theorem ggX9_closes_X11_in : GoodIn wsX9_closes wsX11_in := goodIn_sub (gi_c 12 rfl gi_n) (by decide +kernel)
set_option maxRecDepth 20000 in
theorem gX9_closes_X11_in_n56 : GoodIn wsX9_closes (wsX11_in) := ggX9_closes_X11_in
set_option maxRecDepth 20000 in
theorem ggX9_closes_X9_closes : GoodIn wsX9_closes wsX9_closes := goodIn_sub (gi_c 0 rfl (gi_a (gi_a (gi_c 1 rfl (gi_c 2 rfl (gi_c 3 rfl (gi_c 4 rfl (gi_c 5 rfl (gi_c 6 rfl (gi_c 7 rfl (gi_c 8 rfl (gi_c 9 rfl (gi_c 10 rfl (gi_c 11 rfl (gi_c 12 rfl (gi_c 13 rfl (gi_c 14 rfl gi_n)))))))))))))) pz_X9_closes_X40) pz_X9_closes_X90)) (by decide +kernel)
set_option maxRecDepth 20000 in
theorem gX9_closes_X9_closes : GoodIn wsX9_closes (va_wsS RX9 45 yX9_closes wsX9_closes) := goodIn_app (goodIn_of _ (by decide +kernel)) ggX9_closes_X9_closes
theorem dX9_closes_0 : decode cX9_closes 0 = .ok (.iload_n 3, 1) := by decide +kernel
theorem dX9_closes_1 : decode cX9_closes 1 = .ok (.iload_n 2, 1) := by decide +kernel
theorem dX9_closes_2 : decode cX9_closes 2 = .ok (.if_icmp .lt 5, 3) := by decide +kernel
theorem dX9_closes_5 : decode cX9_closes 5 = .ok (.iconst 1, 1) := by decide +kernel
theorem dX9_closes_6 : decode cX9_closes 6 = .ok (.ireturn, 1) := by decide +kernel
theorem dX9_closes_7 : decode cX9_closes 7 = .ok (.aload_n 0, 1) := by decide +kernel
theorem dX9_closes_8 : decode cX9_closes 8 = .ok (.aload_n 1, 1) := by decide +kernel
theorem dX9_closes_9 : decode cX9_closes 9 = .ok (.iload_n 2, 1) := by decide +kernel
theorem dX9_closes_10 : decode cX9_closes 10 = .ok (.iload_n 3, 1) := by decide +kernel
theorem dX9_closes_11 : decode cX9_closes 11 = .ok (.invokevirtual 49, 3) := by decide +kernel
theorem dX9_closes_14 : decode cX9_closes 14 = .ok (.iload 4, 2) := by decide +kernel
theorem dX9_closes_16 : decode cX9_closes 16 = .ok (.iconst (-1), 1) := by decide +kernel
theorem dX9_closes_17 : decode cX9_closes 17 = .ok (.ixor, 1) := by decide +kernel
theorem dX9_closes_18 : decode cX9_closes 18 = .ok (.iand, 1) := by decide +kernel
theorem dX9_closes_19 : decode cX9_closes 19 = .ok (.istore 5, 2) := by decide +kernel
theorem dX9_closes_21 : decode cX9_closes 21 = .ok (.iload_n 3, 1) := by decide +kernel
theorem dX9_closes_22 : decode cX9_closes 22 = .ok (.iconst 1, 1) := by decide +kernel
theorem dX9_closes_23 : decode cX9_closes 23 = .ok (.if_icmp .ne 7, 3) := by decide +kernel
theorem dX9_closes_26 : decode cX9_closes 26 = .ok (.iconst 0, 1) := by decide +kernel
theorem dX9_closes_27 : decode cX9_closes 27 = .ok (.goto 16, 3) := by decide +kernel
theorem dX9_closes_30 : decode cX9_closes 30 = .ok (.aload_n 1, 1) := by decide +kernel
theorem dX9_closes_31 : decode cX9_closes 31 = .ok (.getfield 53, 3) := by decide +kernel
theorem dX9_closes_34 : decode cX9_closes 34 = .ok (.aload_n 0, 1) := by decide +kernel
theorem dX9_closes_35 : decode cX9_closes 35 = .ok (.getfield 18, 3) := by decide +kernel
theorem dX9_closes_38 : decode cX9_closes 38 = .ok (.iload_n 3, 1) := by decide +kernel
theorem dX9_closes_39 : decode cX9_closes 39 = .ok (.iconst 1, 1) := by decide +kernel
theorem dX9_closes_40 : decode cX9_closes 40 = .ok (.isub, 1) := by decide +kernel
theorem dX9_closes_41 : decode cX9_closes 41 = .ok (.iaload, 1) := by decide +kernel
theorem dX9_closes_42 : decode cX9_closes 42 = .ok (.iaload, 1) := by decide +kernel
theorem dX9_closes_43 : decode cX9_closes 43 = .ok (.istore 6, 2) := by decide +kernel
theorem dX9_closes_45 : decode cX9_closes 45 = .ok (.iconst 0, 1) := by decide +kernel
theorem dX9_closes_46 : decode cX9_closes 46 = .ok (.istore 7, 2) := by decide +kernel
theorem dX9_closes_48 : decode cX9_closes 48 = .ok (.iload 7, 2) := by decide +kernel
theorem dX9_closes_50 : decode cX9_closes 50 = .ok (.aload_n 1, 1) := by decide +kernel
theorem dX9_closes_51 : decode cX9_closes 51 = .ok (.getfield 42, 3) := by decide +kernel
theorem dX9_closes_54 : decode cX9_closes 54 = .ok (.if_icmp .ge 51, 3) := by decide +kernel
theorem dX9_closes_57 : decode cX9_closes 57 = .ok (.iload 5, 2) := by decide +kernel
theorem dX9_closes_59 : decode cX9_closes 59 = .ok (.iload 7, 2) := by decide +kernel
theorem dX9_closes_61 : decode cX9_closes 61 = .ok (.invokestatic 56, 3) := by decide +kernel
theorem dX9_closes_64 : decode cX9_closes 64 = .ok (.ifCond .eq 35, 3) := by decide +kernel
theorem dX9_closes_67 : decode cX9_closes 67 = .ok (.aload_n 0, 1) := by decide +kernel
theorem dX9_closes_68 : decode cX9_closes 68 = .ok (.getfield 18, 3) := by decide +kernel
theorem dX9_closes_71 : decode cX9_closes 71 = .ok (.iload_n 3, 1) := by decide +kernel
theorem dX9_closes_72 : decode cX9_closes 72 = .ok (.iload 7, 2) := by decide +kernel
theorem dX9_closes_74 : decode cX9_closes 74 = .ok (.iastore, 1) := by decide +kernel
theorem dX9_closes_75 : decode cX9_closes 75 = .ok (.aload_n 0, 1) := by decide +kernel
theorem dX9_closes_76 : decode cX9_closes 76 = .ok (.aload_n 1, 1) := by decide +kernel
theorem dX9_closes_77 : decode cX9_closes 77 = .ok (.iload_n 2, 1) := by decide +kernel
theorem dX9_closes_78 : decode cX9_closes 78 = .ok (.iload_n 3, 1) := by decide +kernel
theorem dX9_closes_79 : decode cX9_closes 79 = .ok (.iconst 1, 1) := by decide +kernel
theorem dX9_closes_80 : decode cX9_closes 80 = .ok (.iadd, 1) := by decide +kernel
theorem dX9_closes_81 : decode cX9_closes 81 = .ok (.iload 4, 2) := by decide +kernel
theorem dX9_closes_83 : decode cX9_closes 83 = .ok (.iload 6, 2) := by decide +kernel
theorem dX9_closes_85 : decode cX9_closes 85 = .ok (.ior, 1) := by decide +kernel
theorem dX9_closes_86 : decode cX9_closes 86 = .ok (.iconst 1, 1) := by decide +kernel
theorem dX9_closes_87 : decode cX9_closes 87 = .ok (.iload 7, 2) := by decide +kernel
theorem dX9_closes_89 : decode cX9_closes 89 = .ok (.ishl, 1) := by decide +kernel
theorem dX9_closes_90 : decode cX9_closes 90 = .ok (.ior, 1) := by decide +kernel
theorem dX9_closes_91 : decode cX9_closes 91 = .ok (.invokestatic 45, 3) := by decide +kernel
theorem dX9_closes_94 : decode cX9_closes 94 = .ok (.ifCond .eq 5, 3) := by decide +kernel
theorem dX9_closes_97 : decode cX9_closes 97 = .ok (.iconst 1, 1) := by decide +kernel
theorem dX9_closes_98 : decode cX9_closes 98 = .ok (.ireturn, 1) := by decide +kernel
theorem dX9_closes_99 : decode cX9_closes 99 = .ok (.iinc 7 1, 3) := by decide +kernel
theorem dX9_closes_102 : decode cX9_closes 102 = .ok (.goto (-54), 3) := by decide +kernel
theorem dX9_closes_105 : decode cX9_closes 105 = .ok (.iconst 0, 1) := by decide +kernel
theorem dX9_closes_106 : decode cX9_closes 106 = .ok (.ireturn, 1) := by decide +kernel
set_option maxRecDepth 20000 in
theorem ggX9_nextOnes_X9_above : GoodIn wsX9_nextOnes wsX9_above := goodIn_sub (gi_c 5 rfl gi_n) (by decide +kernel)
set_option maxRecDepth 20000 in
theorem gX9_nextOnes_X9_above : GoodIn wsX9_nextOnes (va_wsS RX9 60 yX9_above wsX9_above) := goodIn_app (goodIn_of _ (by decide +kernel)) ggX9_nextOnes_X9_above
theorem dX9_nextOnes_0 : decode cX9_nextOnes 0 = .ok (.aload_n 0, 1) := by decide +kernel
theorem dX9_nextOnes_1 : decode cX9_nextOnes 1 = .ok (.getfield 18, 3) := by decide +kernel
theorem dX9_nextOnes_4 : decode cX9_nextOnes 4 = .ok (.iconst 0, 1) := by decide +kernel
theorem dX9_nextOnes_5 : decode cX9_nextOnes 5 = .ok (.iaload, 1) := by decide +kernel
theorem dX9_nextOnes_6 : decode cX9_nextOnes 6 = .ok (.istore 4, 2) := by decide +kernel
theorem dX9_nextOnes_8 : decode cX9_nextOnes 8 = .ok (.aload_n 1, 1) := by decide +kernel
theorem dX9_nextOnes_9 : decode cX9_nextOnes 9 = .ok (.getfield 53, 3) := by decide +kernel
theorem dX9_nextOnes_12 : decode cX9_nextOnes 12 = .ok (.aload_n 0, 1) := by decide +kernel
theorem dX9_nextOnes_13 : decode cX9_nextOnes 13 = .ok (.getfield 18, 3) := by decide +kernel
theorem dX9_nextOnes_16 : decode cX9_nextOnes 16 = .ok (.iload_n 3, 1) := by decide +kernel
theorem dX9_nextOnes_17 : decode cX9_nextOnes 17 = .ok (.iconst 1, 1) := by decide +kernel
theorem dX9_nextOnes_18 : decode cX9_nextOnes 18 = .ok (.isub, 1) := by decide +kernel
theorem dX9_nextOnes_19 : decode cX9_nextOnes 19 = .ok (.iaload, 1) := by decide +kernel
theorem dX9_nextOnes_20 : decode cX9_nextOnes 20 = .ok (.iaload, 1) := by decide +kernel
theorem dX9_nextOnes_21 : decode cX9_nextOnes 21 = .ok (.iload 4, 2) := by decide +kernel
theorem dX9_nextOnes_23 : decode cX9_nextOnes 23 = .ok (.invokestatic 60, 3) := by decide +kernel
theorem dX9_nextOnes_26 : decode cX9_nextOnes 26 = .ok (.iand, 1) := by decide +kernel
theorem dX9_nextOnes_27 : decode cX9_nextOnes 27 = .ok (.istore 5, 2) := by decide +kernel
theorem dX9_nextOnes_29 : decode cX9_nextOnes 29 = .ok (.iload_n 3, 1) := by decide +kernel
theorem dX9_nextOnes_30 : decode cX9_nextOnes 30 = .ok (.iconst 1, 1) := by decide +kernel
theorem dX9_nextOnes_31 : decode cX9_nextOnes 31 = .ok (.if_icmp .ne 6, 3) := by decide +kernel
theorem dX9_nextOnes_34 : decode cX9_nextOnes 34 = .ok (.iload 5, 2) := by decide +kernel
theorem dX9_nextOnes_36 : decode cX9_nextOnes 36 = .ok (.ireturn, 1) := by decide +kernel
theorem dX9_nextOnes_37 : decode cX9_nextOnes 37 = .ok (.iload_n 3, 1) := by decide +kernel
theorem dX9_nextOnes_38 : decode cX9_nextOnes 38 = .ok (.iload_n 2, 1) := by decide +kernel
theorem dX9_nextOnes_39 : decode cX9_nextOnes 39 = .ok (.iconst 1, 1) := by decide +kernel
theorem dX9_nextOnes_40 : decode cX9_nextOnes 40 = .ok (.isub, 1) := by decide +kernel
theorem dX9_nextOnes_41 : decode cX9_nextOnes 41 = .ok (.if_icmp .ne 24, 3) := by decide +kernel
theorem dX9_nextOnes_44 : decode cX9_nextOnes 44 = .ok (.iload 5, 2) := by decide +kernel
theorem dX9_nextOnes_46 : decode cX9_nextOnes 46 = .ok (.aload_n 1, 1) := by decide +kernel
theorem dX9_nextOnes_47 : decode cX9_nextOnes 47 = .ok (.getfield 53, 3) := by decide +kernel
theorem dX9_nextOnes_50 : decode cX9_nextOnes 50 = .ok (.iload 4, 2) := by decide +kernel
theorem dX9_nextOnes_52 : decode cX9_nextOnes 52 = .ok (.iaload, 1) := by decide +kernel
theorem dX9_nextOnes_53 : decode cX9_nextOnes 53 = .ok (.iand, 1) := by decide +kernel
theorem dX9_nextOnes_54 : decode cX9_nextOnes 54 = .ok (.aload_n 0, 1) := by decide +kernel
theorem dX9_nextOnes_55 : decode cX9_nextOnes 55 = .ok (.getfield 18, 3) := by decide +kernel
theorem dX9_nextOnes_58 : decode cX9_nextOnes 58 = .ok (.iconst 1, 1) := by decide +kernel
theorem dX9_nextOnes_59 : decode cX9_nextOnes 59 = .ok (.iaload, 1) := by decide +kernel
theorem dX9_nextOnes_60 : decode cX9_nextOnes 60 = .ok (.invokestatic 60, 3) := by decide +kernel
theorem dX9_nextOnes_63 : decode cX9_nextOnes 63 = .ok (.iand, 1) := by decide +kernel
theorem dX9_nextOnes_64 : decode cX9_nextOnes 64 = .ok (.ireturn, 1) := by decide +kernel
theorem dX9_nextOnes_65 : decode cX9_nextOnes 65 = .ok (.iload 5, 2) := by decide +kernel
theorem dX9_nextOnes_67 : decode cX9_nextOnes 67 = .ok (.aload_n 1, 1) := by decide +kernel
theorem dX9_nextOnes_68 : decode cX9_nextOnes 68 = .ok (.getfield 53, 3) := by decide +kernel
theorem dX9_nextOnes_71 : decode cX9_nextOnes 71 = .ok (.iload 4, 2) := by decide +kernel
theorem dX9_nextOnes_73 : decode cX9_nextOnes 73 = .ok (.iaload, 1) := by decide +kernel
theorem dX9_nextOnes_74 : decode cX9_nextOnes 74 = .ok (.iconst (-1), 1) := by decide +kernel
theorem dX9_nextOnes_75 : decode cX9_nextOnes 75 = .ok (.ixor, 1) := by decide +kernel
theorem dX9_nextOnes_76 : decode cX9_nextOnes 76 = .ok (.iand, 1) := by decide +kernel
theorem dX9_nextOnes_77 : decode cX9_nextOnes 77 = .ok (.ireturn, 1) := by decide +kernel
theorem dX9_above_0 : decode cX9_above 0 = .ok (.iconst 2, 1) := by decide +kernel
theorem dX9_above_1 : decode cX9_above 1 = .ok (.iload_n 0, 1) := by decide +kernel
theorem dX9_above_2 : decode cX9_above 2 = .ok (.ishl, 1) := by decide +kernel
theorem dX9_above_3 : decode cX9_above 3 = .ok (.iconst 1, 1) := by decide +kernel
theorem dX9_above_4 : decode cX9_above 4 = .ok (.isub, 1) := by decide +kernel
theorem dX9_above_5 : decode cX9_above 5 = .ok (.iconst (-1), 1) := by decide +kernel
theorem dX9_above_6 : decode cX9_above 6 = .ok (.ixor, 1) := by decide +kernel
theorem dX9_above_7 : decode cX9_above 7 = .ok (.ireturn, 1) := by decide +kernel
set_option maxRecDepth 20000 in
theorem ggX10_restart_J7_fill_53178 : GoodIn wsX10_restart wsJ7_fill_53178 := goodIn_sub (gi_c 7 rfl gi_n) (by decide +kernel)
set_option maxRecDepth 20000 in
theorem gX10_restart_J7_fill_53178 : GoodIn wsX10_restart (va_wsS RX10 22 yJ7_fill_53178 wsJ7_fill_53178) := goodIn_app (goodIn_of _ (by decide +kernel)) ggX10_restart_J7_fill_53178
theorem dX10_restart_0 : decode cX10_restart 0 = .ok (.aload_n 0, 1) := by decide +kernel
theorem dX10_restart_1 : decode cX10_restart 1 = .ok (.iload_n 1, 1) := by decide +kernel
theorem dX10_restart_2 : decode cX10_restart 2 = .ok (.putfield 15, 3) := by decide +kernel
theorem dX10_restart_5 : decode cX10_restart 5 = .ok (.aload_n 0, 1) := by decide +kernel
theorem dX10_restart_6 : decode cX10_restart 6 = .ok (.getfield 9, 3) := by decide +kernel
theorem dX10_restart_9 : decode cX10_restart 9 = .ok (.iconst (-1), 1) := by decide +kernel
theorem dX10_restart_10 : decode cX10_restart 10 = .ok (.invokestatic 22, 3) := by decide +kernel
theorem dX10_restart_13 : decode cX10_restart 13 = .ok (.aload_n 0, 1) := by decide +kernel
theorem dX10_restart_14 : decode cX10_restart 14 = .ok (.dup, 1) := by decide +kernel
theorem dX10_restart_15 : decode cX10_restart 15 = .ok (.getfield 19, 3) := by decide +kernel
theorem dX10_restart_18 : decode cX10_restart 18 = .ok (.iconst 1, 1) := by decide +kernel
theorem dX10_restart_19 : decode cX10_restart 19 = .ok (.iadd, 1) := by decide +kernel
theorem dX10_restart_20 : decode cX10_restart 20 = .ok (.putfield 19, 3) := by decide +kernel
theorem dX10_restart_23 : decode cX10_restart 23 = .ok (.return_, 1) := by decide +kernel
theorem dX10_hasPlace_0 : decode cX10_hasPlace 0 = .ok (.iload_n 1, 1) := by decide +kernel
theorem dX10_hasPlace_1 : decode cX10_hasPlace 1 = .ok (.ifCond .lt 13, 3) := by decide +kernel
theorem dX10_hasPlace_4 : decode cX10_hasPlace 4 = .ok (.iload_n 1, 1) := by decide +kernel
theorem dX10_hasPlace_5 : decode cX10_hasPlace 5 = .ok (.bipush 12, 2) := by decide +kernel
theorem dX10_hasPlace_7 : decode cX10_hasPlace 7 = .ok (.if_icmp .ge 7, 3) := by decide +kernel
theorem dX10_hasPlace_10 : decode cX10_hasPlace 10 = .ok (.iconst 1, 1) := by decide +kernel
theorem dX10_hasPlace_11 : decode cX10_hasPlace 11 = .ok (.goto 4, 3) := by decide +kernel
theorem dX10_hasPlace_14 : decode cX10_hasPlace 14 = .ok (.iconst 0, 1) := by decide +kernel
theorem dX10_hasPlace_15 : decode cX10_hasPlace 15 = .ok (.ireturn, 1) := by decide +kernel
theorem dX10_hasRun_0 : decode cX10_hasRun 0 = .ok (.iload_n 1, 1) := by decide +kernel
theorem dX10_hasRun_1 : decode cX10_hasRun 1 = .ok (.ifCond .lt 25, 3) := by decide +kernel
theorem dX10_hasRun_4 : decode cX10_hasRun 4 = .ok (.iload_n 2, 1) := by decide +kernel
theorem dX10_hasRun_5 : decode cX10_hasRun 5 = .ok (.ifCond .lt 21, 3) := by decide +kernel
theorem dX10_hasRun_8 : decode cX10_hasRun 8 = .ok (.iload_n 1, 1) := by decide +kernel
theorem dX10_hasRun_9 : decode cX10_hasRun 9 = .ok (.bipush 12, 2) := by decide +kernel
theorem dX10_hasRun_11 : decode cX10_hasRun 11 = .ok (.if_icmp .gt 15, 3) := by decide +kernel
theorem dX10_hasRun_14 : decode cX10_hasRun 14 = .ok (.iload_n 2, 1) := by decide +kernel
theorem dX10_hasRun_15 : decode cX10_hasRun 15 = .ok (.bipush 12, 2) := by decide +kernel
theorem dX10_hasRun_17 : decode cX10_hasRun 17 = .ok (.iload_n 1, 1) := by decide +kernel
theorem dX10_hasRun_18 : decode cX10_hasRun 18 = .ok (.isub, 1) := by decide +kernel
theorem dX10_hasRun_19 : decode cX10_hasRun 19 = .ok (.if_icmp .gt 7, 3) := by decide +kernel
theorem dX10_hasRun_22 : decode cX10_hasRun 22 = .ok (.iconst 1, 1) := by decide +kernel
theorem dX10_hasRun_23 : decode cX10_hasRun 23 = .ok (.goto 4, 3) := by decide +kernel
theorem dX10_hasRun_26 : decode cX10_hasRun 26 = .ok (.iconst 0, 1) := by decide +kernel
theorem dX10_hasRun_27 : decode cX10_hasRun 27 = .ok (.ireturn, 1) := by decide +kernel
theorem dX10_put_0 : decode cX10_put 0 = .ok (.aload_n 0, 1) := by decide +kernel
theorem dX10_put_1 : decode cX10_put 1 = .ok (.getfield 9, 3) := by decide +kernel
theorem dX10_put_4 : decode cX10_put 4 = .ok (.iload_n 1, 1) := by decide +kernel
theorem dX10_put_5 : decode cX10_put 5 = .ok (.iload_n 2, 1) := by decide +kernel
theorem dX10_put_6 : decode cX10_put 6 = .ok (.iastore, 1) := by decide +kernel
theorem dX10_put_7 : decode cX10_put 7 = .ok (.aload_n 0, 1) := by decide +kernel
theorem dX10_put_8 : decode cX10_put 8 = .ok (.dup, 1) := by decide +kernel
theorem dX10_put_9 : decode cX10_put 9 = .ok (.getfield 19, 3) := by decide +kernel
theorem dX10_put_12 : decode cX10_put 12 = .ok (.iconst 1, 1) := by decide +kernel
theorem dX10_put_13 : decode cX10_put 13 = .ok (.iadd, 1) := by decide +kernel
theorem dX10_put_14 : decode cX10_put 14 = .ok (.putfield 19, 3) := by decide +kernel
theorem dX10_put_17 : decode cX10_put 17 = .ok (.return_, 1) := by decide +kernel
theorem dX10_move_0 : decode cX10_move 0 = .ok (.aload_n 0, 1) := by decide +kernel
theorem dX10_move_1 : decode cX10_move 1 = .ok (.getfield 9, 3) := by decide +kernel
theorem dX10_move_4 : decode cX10_move 4 = .ok (.iload_n 1, 1) := by decide +kernel
theorem dX10_move_5 : decode cX10_move 5 = .ok (.aload_n 0, 1) := by decide +kernel
theorem dX10_move_6 : decode cX10_move 6 = .ok (.getfield 9, 3) := by decide +kernel
theorem dX10_move_9 : decode cX10_move 9 = .ok (.iload_n 2, 1) := by decide +kernel
theorem dX10_move_10 : decode cX10_move 10 = .ok (.iload_n 3, 1) := by decide +kernel
theorem dX10_move_11 : decode cX10_move 11 = .ok (.invokestatic 28, 3) := by decide +kernel
theorem dX10_move_14 : decode cX10_move 14 = .ok (.aload_n 0, 1) := by decide +kernel
theorem dX10_move_15 : decode cX10_move 15 = .ok (.dup, 1) := by decide +kernel
theorem dX10_move_16 : decode cX10_move 16 = .ok (.getfield 19, 3) := by decide +kernel
theorem dX10_move_19 : decode cX10_move 19 = .ok (.iconst 1, 1) := by decide +kernel
theorem dX10_move_20 : decode cX10_move 20 = .ok (.iadd, 1) := by decide +kernel
theorem dX10_move_21 : decode cX10_move 21 = .ok (.putfield 19, 3) := by decide +kernel
theorem dX10_move_24 : decode cX10_move 24 = .ok (.return_, 1) := by decide +kernel
theorem dX10_present_0 : decode cX10_present 0 = .ok (.iconst 0, 1) := by decide +kernel
theorem dX10_present_1 : decode cX10_present 1 = .ok (.istore_n 1, 1) := by decide +kernel
theorem dX10_present_2 : decode cX10_present 2 = .ok (.iconst 0, 1) := by decide +kernel
theorem dX10_present_3 : decode cX10_present 3 = .ok (.istore_n 2, 1) := by decide +kernel
theorem dX10_present_4 : decode cX10_present 4 = .ok (.iload_n 2, 1) := by decide +kernel
theorem dX10_present_5 : decode cX10_present 5 = .ok (.bipush 12, 2) := by decide +kernel
theorem dX10_present_7 : decode cX10_present 7 = .ok (.if_icmp .ge 22, 3) := by decide +kernel
theorem dX10_present_10 : decode cX10_present 10 = .ok (.aload_n 0, 1) := by decide +kernel
theorem dX10_present_11 : decode cX10_present 11 = .ok (.getfield 9, 3) := by decide +kernel
theorem dX10_present_14 : decode cX10_present 14 = .ok (.iload_n 2, 1) := by decide +kernel
theorem dX10_present_15 : decode cX10_present 15 = .ok (.iaload, 1) := by decide +kernel
theorem dX10_present_16 : decode cX10_present 16 = .ok (.iconst (-1), 1) := by decide +kernel
theorem dX10_present_17 : decode cX10_present 17 = .ok (.if_icmp .eq 6, 3) := by decide +kernel
theorem dX10_present_20 : decode cX10_present 20 = .ok (.iinc 1 1, 3) := by decide +kernel
theorem dX10_present_23 : decode cX10_present 23 = .ok (.iinc 2 1, 3) := by decide +kernel
theorem dX10_present_26 : decode cX10_present 26 = .ok (.goto (-22), 3) := by decide +kernel
theorem dX10_present_29 : decode cX10_present 29 = .ok (.iload_n 1, 1) := by decide +kernel
theorem dX10_present_30 : decode cX10_present 30 = .ok (.ireturn, 1) := by decide +kernel
set_option maxRecDepth 20000 in
theorem ggX11_nodes_X11_startGraph : GoodIn wsX11_nodes wsX11_startGraph := goodIn_sub (gi_t pz_X11_nodes_X11_nodes_r1 4 rfl (gi_a (gi_a (gi_a (gi_a (gi_t pz_X11_nodes_X11_nodes_r1 5 rfl (gi_t pz_X11_nodes_X11_nodes_r1 6 rfl (gi_t pz_X11_nodes_X11_nodes_r1 7 rfl (gi_t pz_X11_nodes_X11_nodes_r1 8 rfl (gi_t pz_X11_nodes_X11_nodes_r1 9 rfl (gi_t pz_X11_nodes_X11_nodes_r1 10 rfl (gi_t pz_X11_nodes_X11_nodes_r1 11 rfl (gi_t pz_X11_nodes_X11_nodes_r1 12 rfl (gi_t pz_X11_nodes_X11_nodes_r1 13 rfl (gi_t pz_X11_nodes_X11_nodes_r1 14 rfl (gi_t pz_X11_nodes_X11_nodes_r1 15 rfl (gi_t pz_X11_nodes_X11_nodes_r1 16 rfl (gi_t pz_X11_nodes_X11_nodes_r1 17 rfl (gi_t pz_X11_nodes_X11_nodes_r1 18 rfl (gi_t pz_X11_nodes_X11_nodes_r1 19 rfl (gi_t pz_X11_nodes_X11_nodes_r1 20 rfl (gi_t pz_X11_nodes_X11_nodes_r1 21 rfl (gi_t pz_X11_nodes_X11_nodes_r1 22 rfl (gi_t pz_X11_nodes_X11_nodes_r1 23 rfl (gi_t pz_X11_nodes_X11_nodes_r2 0 rfl (gi_t pz_X11_nodes_X11_nodes_r2 1 rfl (gi_t pz_X11_nodes_X11_nodes_r2 2 rfl (gi_t pz_X11_nodes_X11_nodes_r2 3 rfl (gi_t pz_X11_nodes_X11_nodes_r2 4 rfl gi_n)))))))))))))))))))))))) (gi_t pz_X11_nodes_X11_nodes_r2 5 rfl (gi_t pz_X11_nodes_X11_nodes_r2 6 rfl (gi_t pz_X11_nodes_X11_nodes_r2 7 rfl (gi_t pz_X11_nodes_X11_nodes_r1 3 rfl (gi_t pz_X11_nodes_X11_nodes_r2 8 rfl gi_n)))))) pz_X11_nodes_X110) pz_X11_nodes_X40) pz_X11_nodes_X60)) (by decide +kernel)
set_option maxRecDepth 20000 in
theorem gX11_nodes_X11_startGraph : GoodIn wsX11_nodes (wsV RX11 90 RX11 yX11_startGraph wsX11_startGraph) := goodIn_app (goodIn_of _ (by decide +kernel)) ggX11_nodes_X11_startGraph
theorem dX11_nodes_0 : decode cX11_nodes 0 = .ok (.iload_n 1, 1) := by decide +kernel
theorem dX11_nodes_1 : decode cX11_nodes 1 = .ok (.ifCond .lt 9, 3) := by decide +kernel
theorem dX11_nodes_4 : decode cX11_nodes 4 = .ok (.iload_n 1, 1) := by decide +kernel
theorem dX11_nodes_5 : decode cX11_nodes 5 = .ok (.bipush 12, 2) := by decide +kernel
theorem dX11_nodes_7 : decode cX11_nodes 7 = .ok (.if_icmp .le 5, 3) := by decide +kernel
theorem dX11_nodes_10 : decode cX11_nodes 10 = .ok (.iconst (-1), 1) := by decide +kernel
theorem dX11_nodes_11 : decode cX11_nodes 11 = .ok (.ireturn, 1) := by decide +kernel
theorem dX11_nodes_12 : decode cX11_nodes 12 = .ok (.aload_n 0, 1) := by decide +kernel
theorem dX11_nodes_13 : decode cX11_nodes 13 = .ok (.iload_n 1, 1) := by decide +kernel
theorem dX11_nodes_14 : decode cX11_nodes 14 = .ok (.invokevirtual 90, 3) := by decide +kernel
theorem dX11_nodes_17 : decode cX11_nodes 17 = .ok (.iload_n 1, 1) := by decide +kernel
theorem dX11_nodes_18 : decode cX11_nodes 18 = .ok (.ireturn, 1) := by decide +kernel
set_option maxRecDepth 20000 in
theorem ggX11_join_X4_has : GoodIn wsX11_join wsX4_has := goodIn_sub (gi_c 6 rfl (gi_a (gi_c 7 rfl gi_n) pz_X11_join_X40)) (by decide +kernel)
set_option maxRecDepth 20000 in
theorem gX11_join_X4_has_n93 : GoodIn wsX11_join (wsX4_has) := ggX11_join_X4_has
set_option maxRecDepth 20000 in
theorem ggX11_join_X4_touches : GoodIn wsX11_join wsX4_touches := goodIn_sub (gi_c 10 rfl (gi_a (gi_c 11 rfl (gi_c 12 rfl (gi_c 13 rfl (gi_c 14 rfl gi_n)))) pz_X11_join_X40)) (by decide +kernel)
set_option maxRecDepth 20000 in
theorem gX11_join_X4_touches_n97 : GoodIn wsX11_join (wsX4_touches) := ggX11_join_X4_touches
set_option maxRecDepth 20000 in
theorem ggX11_join_X4_set : GoodIn wsX11_join wsX4_set := goodIn_sub (gi_c 17 rfl (gi_a (gi_c 11 rfl (gi_c 18 rfl gi_n)) pz_X11_join_X40)) (by decide +kernel)
set_option maxRecDepth 20000 in
theorem gX11_join_X4_set_n101 : GoodIn wsX11_join (wsX4_set) := ggX11_join_X4_set
set_option maxRecDepth 20000 in
theorem ggX11_join_X6_drop : GoodIn wsX11_join wsX6_drop := goodIn_sub (gi_c 22 rfl (gi_a (gi_c 23 rfl gi_n) pz_X11_join_X60)) (by decide +kernel)
set_option maxRecDepth 20000 in
theorem gX11_join_X6_drop_n105 : GoodIn wsX11_join (wsX6_drop) := ggX11_join_X6_drop
theorem dX11_join_0 : decode cX11_join 0 = .ok (.aload_n 0, 1) := by decide +kernel
theorem dX11_join_1 : decode cX11_join 1 = .ok (.getfield 10, 3) := by decide +kernel
theorem dX11_join_4 : decode cX11_join 4 = .ok (.iload_n 1, 1) := by decide +kernel
theorem dX11_join_5 : decode cX11_join 5 = .ok (.invokevirtual 93, 3) := by decide +kernel
theorem dX11_join_8 : decode cX11_join 8 = .ok (.ifCond .eq 19, 3) := by decide +kernel
theorem dX11_join_11 : decode cX11_join 11 = .ok (.aload_n 0, 1) := by decide +kernel
theorem dX11_join_12 : decode cX11_join 12 = .ok (.getfield 10, 3) := by decide +kernel
theorem dX11_join_15 : decode cX11_join 15 = .ok (.iload_n 2, 1) := by decide +kernel
theorem dX11_join_16 : decode cX11_join 16 = .ok (.invokevirtual 93, 3) := by decide +kernel
theorem dX11_join_19 : decode cX11_join 19 = .ok (.ifCond .eq 8, 3) := by decide +kernel
theorem dX11_join_22 : decode cX11_join 22 = .ok (.iload_n 1, 1) := by decide +kernel
theorem dX11_join_23 : decode cX11_join 23 = .ok (.iload_n 2, 1) := by decide +kernel
theorem dX11_join_24 : decode cX11_join 24 = .ok (.if_icmp .ne 5, 3) := by decide +kernel
theorem dX11_join_27 : decode cX11_join 27 = .ok (.iconst (-1), 1) := by decide +kernel
theorem dX11_join_28 : decode cX11_join 28 = .ok (.ireturn, 1) := by decide +kernel
theorem dX11_join_29 : decode cX11_join 29 = .ok (.aload_n 0, 1) := by decide +kernel
theorem dX11_join_30 : decode cX11_join 30 = .ok (.getfield 10, 3) := by decide +kernel
theorem dX11_join_33 : decode cX11_join 33 = .ok (.iload_n 1, 1) := by decide +kernel
theorem dX11_join_34 : decode cX11_join 34 = .ok (.iload_n 2, 1) := by decide +kernel
theorem dX11_join_35 : decode cX11_join 35 = .ok (.invokevirtual 97, 3) := by decide +kernel
theorem dX11_join_38 : decode cX11_join 38 = .ok (.ifCond .eq 7, 3) := by decide +kernel
theorem dX11_join_41 : decode cX11_join 41 = .ok (.iconst 1, 1) := by decide +kernel
theorem dX11_join_42 : decode cX11_join 42 = .ok (.goto 4, 3) := by decide +kernel
theorem dX11_join_45 : decode cX11_join 45 = .ok (.iconst 0, 1) := by decide +kernel
theorem dX11_join_46 : decode cX11_join 46 = .ok (.istore 4, 2) := by decide +kernel
theorem dX11_join_48 : decode cX11_join 48 = .ok (.aload_n 0, 1) := by decide +kernel
theorem dX11_join_49 : decode cX11_join 49 = .ok (.getfield 10, 3) := by decide +kernel
theorem dX11_join_52 : decode cX11_join 52 = .ok (.iload_n 1, 1) := by decide +kernel
theorem dX11_join_53 : decode cX11_join 53 = .ok (.iload_n 2, 1) := by decide +kernel
theorem dX11_join_54 : decode cX11_join 54 = .ok (.iload_n 3, 1) := by decide +kernel
theorem dX11_join_55 : decode cX11_join 55 = .ok (.invokevirtual 101, 3) := by decide +kernel
theorem dX11_join_58 : decode cX11_join 58 = .ok (.aload_n 0, 1) := by decide +kernel
theorem dX11_join_59 : decode cX11_join 59 = .ok (.getfield 26, 3) := by decide +kernel
theorem dX11_join_62 : decode cX11_join 62 = .ok (.invokevirtual 105, 3) := by decide +kernel
theorem dX11_join_65 : decode cX11_join 65 = .ok (.iload 4, 2) := by decide +kernel
theorem dX11_join_67 : decode cX11_join 67 = .ok (.ireturn, 1) := by decide +kernel
set_option maxRecDepth 20000 in
theorem ggX11_joined_X4_has : GoodIn wsX11_joined wsX4_has := goodIn_sub (gi_c 5 rfl (gi_a (gi_c 6 rfl gi_n) pz_X11_joined_X40)) (by decide +kernel)
set_option maxRecDepth 20000 in
theorem gX11_joined_X4_has_n93 : GoodIn wsX11_joined (wsX4_has) := ggX11_joined_X4_has
theorem dX11_joined_0 : decode cX11_joined 0 = .ok (.aload_n 0, 1) := by decide +kernel
theorem dX11_joined_1 : decode cX11_joined 1 = .ok (.getfield 10, 3) := by decide +kernel
theorem dX11_joined_4 : decode cX11_joined 4 = .ok (.iload_n 1, 1) := by decide +kernel
theorem dX11_joined_5 : decode cX11_joined 5 = .ok (.invokevirtual 93, 3) := by decide +kernel
theorem dX11_joined_8 : decode cX11_joined 8 = .ok (.ifCond .eq 15, 3) := by decide +kernel
theorem dX11_joined_11 : decode cX11_joined 11 = .ok (.aload_n 0, 1) := by decide +kernel
theorem dX11_joined_12 : decode cX11_joined 12 = .ok (.getfield 10, 3) := by decide +kernel
theorem dX11_joined_15 : decode cX11_joined 15 = .ok (.getfield 108, 3) := by decide +kernel
theorem dX11_joined_18 : decode cX11_joined 18 = .ok (.iload_n 1, 1) := by decide +kernel
theorem dX11_joined_19 : decode cX11_joined 19 = .ok (.iaload, 1) := by decide +kernel
theorem dX11_joined_20 : decode cX11_joined 20 = .ok (.goto 4, 3) := by decide +kernel
theorem dX11_joined_23 : decode cX11_joined 23 = .ok (.iconst (-1), 1) := by decide +kernel
